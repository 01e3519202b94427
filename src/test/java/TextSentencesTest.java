import java.math.BigInteger;
import java.util.List;
import java.util.function.ToIntFunction;

/** Texts, states and refusals (promises 18 to 24): each sentence that names a boundary, on both its sides. */
public final class TextSentencesTest extends Sentences {
    private static final String BLANKS = " ".repeat(120);

    public static void main(String[] args) {
        new TextSentencesTest().all();
    }

    private void all() {
        type();
        clear();
        endsOfOrders();
        howManyNumbers();
        words();
        figures();
        signs();
        blanks();
        faults();
        endsTooEarly();
        nothingIsDone();
        limitsOfOrders();
        ordersInTheirOrder();
        cause();
        does();
        statesLeft();
        statesHeld();
        back();
        told();
        why();
        digest();
        refusals();
        manyCalls();
        ends();
    }

    // ---- promises 18 and 19

    private void type() {
        says("18 a byte 0 .. 127");
        SpeedWarden w = new SpeedWarden();
        int[] strange = {LOWEST, -128, -1, 128, 255, HIGHEST};
        for (int c : strange) {
            due("type(" + c + ")", w.type(c), BAD);
            due("told(11)", w.told(11), 0);
        }
        due("type(0)", w.type(0), 1);
        due("type(127)", w.type(127), 2);
        due("told(11)", w.told(11), 2);

        says("18 FULL: 120");
        w = new SpeedWarden();
        for (int k = 1; k <= 120; k++) {
            due("type(32)", w.type(32), k);
        }
        due("the next one", w.type(32), FULL);
        due("and the next", w.type(32), FULL);
        due("told(11)", w.told(11), 120);
        due("told(2)", w.told(2), 2);
        due("behind clear()", w.clear(), 120);
        due("one again", w.type(32), 1);

        says("18 the first of BAD, FULL");
        types(w, BLANKS);
        due("type(128)", w.type(128), BAD);
        due("type(-1)", w.type(-1), BAD);
        due("type(127)", w.type(127), FULL);
        toldIs(w, 2, 0, 3);

        says("THE TEXT has 120 bytes at most, and all are read");
        w = new SpeedWarden();
        due("an ORDER at its end", does(w, BLANKS.substring(5) + "len5;"), 1);
        due("told(3)", w.told(3), 5);
        due("FULL", w.type('x'), FULL);
        due("the byte refused is not in it", w.does(), 1);
        due("an end too early", does(w, BLANKS.substring(4) + "len5"), -130);
    }

    private void clear() {
        says("19 how many it had");
        SpeedWarden w = new SpeedWarden();
        due("none", w.clear(), 0);
        w.type(65);
        due("one", w.clear(), 1);
        due("none", w.clear(), 0);
        types(w, BLANKS);
        due("120", w.clear(), 120);
        due("told(11)", w.told(11), 0);

        says("19 THE TEXT is empty: what it had is not read again");
        types(w, "len 5;");
        w.clear();
        due("does()", w.does(), -10);
        types(w, "len 5;brake 7;");
        w.clear();
        due("does()", w.does(), -10);
        due("does()", does(w, "len 6;"), 1);
        due("told(3)", w.told(3), 6);
        due("told(4)", w.told(4), 10);
    }

    // ---- terms: THE TEXT

    private void fault(String text, int place, int cause) {
        SpeedWarden w = new SpeedWarden();
        due("does() of '" + text + "'", does(w, text), -10 - place);
        due("why(0) of '" + text + "'", w.why(0), cause);
        due("why(1) of '" + text + "'", w.why(1), place);
    }

    private void done(String text, int orders) {
        SpeedWarden w = new SpeedWarden();
        due("does() of '" + text + "'", does(w, text), orders);
        due("why(0) of '" + text + "'", w.why(0), 0);
        due("why(1) of '" + text + "'", w.why(1), NONE);
    }

    private void endsOfOrders() {
        says("ORDERS, each ended by ;");
        done("len 5;", 1);
        fault("len 5", 5, 2);
        done("len 5;len 6;", 2);
        fault("len 5;len 6", 11, 2);
        fault("len 5 len 6;", 6, 2);
        fault("len 5:", 5, 2);
        fault("len 5<", 5, 2);
        fault(";", 0, 2);
        fault(";len 5;", 0, 2);
        fault("len 5;;", 6, 2);
        fault("len;5;", 3, 2);
    }

    private void howManyNumbers() {
        says("a word, then numbers: one of len, beacon, brake, pull, long, error");
        String[] ones = {"len", "beacon", "brake", "pull", "long", "error"};
        for (String word : ones) {
            int n = word.length();
            fault(word + ";", n, 2);
            fault(word + " ;", n + 1, 2);
            done(word + " 9;", 1);
            fault(word + " 9 9;", n + 3, 2);
            fault("9;", 0, 2);
        }

        says("a word, then numbers: three of ceil, grade");
        String[] threes = {"ceil", "grade"};
        for (String word : threes) {
            int n = word.length();
            fault(word + ";", n, 2);
            fault(word + " 1;", n + 2, 2);
            fault(word + " 1 2;", n + 4, 2);
            done(word + " 1 2 3;", 1);
            fault(word + " 1 2 3 4;", n + 7, 2);
        }

        says("each word does what its call does");
        SpeedWarden w = new SpeedWarden();
        due("does()", does(w, "len 50;ceil 1 3 15;grade 2 4 -4;grade 5 5 6;beacon 7;brake 8;pull 9;long 2;error 0;"), 9);
        toldIs(w, 0, 0, 0, 50, 8, 9, 2, 0, 1, 3, 5);
        int[][] cells = {{40, 20, 0}, {15, 20, 0}, {15, 16, 0}, {15, 16, 0}, {40, 16, 0}, {40, 26, 0}, {40, 20, 0},
            {40, 20, 1}, {40, 20, 0}};
        for (int x = 0; x < cells.length; x++) {
            cellIs(w, x, cells[x][0], cells[x][1], cells[x][2]);
        }
    }

    private void words() {
        says("a word is letters a .. z in a row");
        done("len5;", 1);
        fault("l en 5;", 0, 1);
        fault("le n5;", 0, 1);
        fault("`len 5;", 0, 2);
        fault("{len 5;", 0, 2);
        fault("Len 5;", 0, 2);
        fault("LEN 5;", 0, 2);
        fault("len`5;", 3, 2);
        fault("len{5;", 3, 2);
        fault("lenA5;", 3, 2);
        fault("len@5;", 3, 2);
        fault("len[5;", 3, 2);
        fault("a", 0, 1);
        fault("z", 0, 1);
        fault("`", 0, 2);
        fault("{", 0, 2);

        says("a word that is none of these: its first letter, CAUSE 1");
        String[] known = {"len", "ceil", "grade", "beacon", "brake", "pull", "long", "error"};
        for (String word : known) {
            fault(word.substring(0, word.length() - 1) + " 1 2 3;", 0, 1);
            fault(word.substring(1) + " 1 2 3;", 0, 1);
            fault(word + "a 1 2 3;", 0, 1);
            fault(word + "z1 2 3;", 0, 1);
            fault(word + word + " 1 2 3;", 0, 1);
            fault("len 9; " + word.substring(0, word.length() - 1) + "x 1 2 3;", 7, 1);
        }
        for (String word : known) {
            for (int k = 0; k < word.length(); k++) {
                fault(word.substring(0, k) + "x" + word.substring(k + 1) + " 1 2 3;", 0, 1);
            }
        }
        String[] none = {"warn", "serve", "stop", "x", "lengthens", "lays", "sets", "length", "a".repeat(120)};
        for (String word : none) {
            fault(word + " 1;", 0, 1);
            fault(word, 0, 1);
        }

        says("a word of no letter: CAUSE 2");
        fault("5;", 0, 2);
        fault("-", 0, 2);
        fault("len 5;5", 6, 2);
        fault("len 5; -1;", 7, 2);
        fault("\u007f", 0, 2);
        fault("\0", 0, 2);
    }

    private void figures() {
        says("numbers have 1 to 3 figures");
        fault("len ;", 4, 2);
        done("len 5;", 1);
        done("len 50;", 1);
        done("len 150;", 1);
        fault("len 1500;", 7, 2);
        fault("len 15000;", 7, 2);
        done("len 005;", 1);
        fault("len 0005;", 7, 2);
        done("ceil 000 001 002;", 1);
        fault("ceil 0000 001 002;", 8, 2);
        fault("ceil 000 0001 002;", 12, 2);
        fault("ceil 000 001 0002;", 16, 2);
        done("grade 0 1 -020;", 1);
        fault("grade 0 1 -0020;", 14, 2);

        says("figures are 0 .. 9");
        done("error 0;", 1);
        done("error 9;", 1);
        done("len 190;", 1);
        fault("len /;", 4, 2);
        fault("len :;", 4, 2);
        fault("len 5/;", 5, 2);
        fault("len 5a;", 5, 2);
        fault("len a5;", 4, 2);
        fault("len 1.0;", 5, 2);

        says("a number is its figures' value");
        String[] texts = {"len 5;", "len 10;", "len 012;", "len 99;", "len 100;", "len 123;", "len 199;"};
        int[] values = {5, 10, 12, 99, 100, 123, 199};
        for (int k = 0; k < texts.length; k++) {
            SpeedWarden w = new SpeedWarden();
            does(w, texts[k]);
            due("told(3) by " + texts[k], w.told(3), values[k]);
        }
    }

    private void signs() {
        says("v of grade perhaps - ahead");
        done("grade 1 2 3;", 1);
        done("grade 1 2 -3;", 1);
        fault("grade 1 2 --3;", 11, 2);
        fault("grade 1 2 +3;", 10, 2);
        fault("grade 1 2 3-;", 11, 2);
        fault("grade 1 2 -;", 11, 2);
        fault("grade 1 2 -x;", 11, 2);
        String[] texts = {"grade 1 1 -0;", "grade 1 1 -1;", "grade 1 1 -20;", "grade 1 1 20;", "grade 1 1-003;"};
        int[] values = {20, 19, 0, 40, 17};
        for (int k = 0; k < texts.length; k++) {
            SpeedWarden w = new SpeedWarden();
            does(w, texts[k]);
            due("cell(1, 1) by " + texts[k], w.cell(1, 1), values[k]);
        }

        says("no other number has - ahead");
        fault("grade -1 2 3;", 6, 2);
        fault("grade 1 -2 3;", 8, 2);
        fault("ceil -1 2 3;", 5, 2);
        fault("ceil 1 -2 3;", 7, 2);
        fault("ceil 1 2 -3;", 9, 2);
        fault("ceil 1 2 -0;", 9, 2);
        String[] ones = {"len", "beacon", "brake", "pull", "long", "error"};
        for (String word : ones) {
            fault(word + " -0;", word.length() + 1, 2);
            fault(word + "-9;", word.length(), 2);
        }
    }

    private void blanks() {
        says("blanks may stand anywhere but within a word or number");
        done("   len   5   ;   brake   6   ;   ", 2);
        done(" grade  1  2  -3  ; ", 1);
        done("ceil   1   2   3   ;", 1);
        fault("ce il 1 2 3;", 0, 1);
        fault("len 5 0;", 6, 2);
        fault("grade 1 2 -1 0;", 13, 2);

        says("no blanks behind a -");
        done("grade 1 2 -3;", 1);
        fault("grade 1 2 - 3;", 11, 2);

        says("a blank is byte 32 alone");
        int[] others = {0, 9, 10, 13, 31, 33, 95, 127};
        for (int other : others) {
            String c = String.valueOf((char) other);
            fault(c + "len 5;", 0, 2);
            fault("len" + c + "5;", 3, 2);
            fault("len 5" + c + ";", 5, 2);
            fault("len 5;" + c, 6, 2);
            fault("ceil 1" + c + "2 3;", 6, 2);
        }

        says("blanks are needed only where figures of two numbers would else stand side by side");
        done("len5;", 1);
        done("beacon5;brake5;pull5;long5;error5;", 5);
        done("ceil1 2 3;", 1);
        fault("ceil12 3;", 8, 2);
        fault("ceil1 23;", 8, 2);
        fault("ceil123;", 7, 2);
        fault("ceil1234;", 7, 2);
        done("grade1 2 3;", 1);
        done("grade1 2-3;", 1);
        fault("grade12-3;", 7, 2);
        fault("grade1 23;", 9, 2);
    }

    private void faults() {
        says("FAULT: the first byte that can not stand there");
        fault("x;len 1234;", 0, 1);
        fault("len 1234;x;", 7, 2);
        fault("len 5;x;len", 6, 1);
        fault("len 5;;x", 6, 2);
        fault("len x y;", 4, 2);
        fault("len len;", 4, 2);
        fault("len 5 x;", 6, 2);
        fault("len 5x;", 5, 2);
        fault("len 5,6;", 5, 2);

        says("FAULT: a fourth figure");
        fault("brake 1234", 9, 2);
        fault("brake 0001", 9, 2);
        fault("brake 5;brake 12345;", 17, 2);
        fault("beacon0123;", 9, 2);
    }

    private void endsTooEarly() {
        says("FAULT: THE TEXT's length, if it ends too early");
        fault("len", 3, 2);
        fault("len ", 4, 2);
        fault("len 5", 5, 2);
        fault("len 5 ", 6, 2);
        fault("len 123", 7, 2);
        fault("ceil", 4, 2);
        fault("ceil 1", 6, 2);
        fault("ceil 1 ", 7, 2);
        fault("ceil 1 2", 8, 2);
        fault("ceil 1 2 3", 10, 2);
        fault("grade 1 2 -", 11, 2);
        fault("grade 1 2 -3", 12, 2);
        fault("len 5;brake", 11, 2);

        says("FAULT of an empty TEXT is 0, of blanks alone their number");
        fault("", 0, 2);
        fault(" ", 1, 2);
        fault("     ", 5, 2);
        fault(BLANKS, 120, 2);

        says("THE TEXT does not end too early behind a ;");
        done("len 5;", 1);
        done("len 5; ", 1);
        done("len 5;" + BLANKS.substring(6), 1);
        done(BLANKS.substring(6) + "len 5;", 1);

        says("FAULT of a word that is none of these, at the end, too: its first letter");
        fault("le", 0, 1);
        fault("  le", 2, 1);
        fault("len 5;le", 6, 1);
        fault("len 5; l", 7, 1);
        fault(BLANKS.substring(1) + "l", 119, 1);
        fault(BLANKS.substring(3) + "lem", 117, 1);
        fault(BLANKS.substring(3) + "len", 120, 2);
        fault("a".repeat(120), 0, 1);
    }

    /** As digest() is behind a does() that did nothing but change CAUSE and the place. */
    private static long digestBehind(long ahead, int size, int causes, int places) {
        return ahead + causes * power(14 + 4 * size) + places * power(13 + 4 * size);
    }

    private static long power(int n) {
        long p = 1;
        for (int k = 0; k < n; k++) {
            p *= 31;
        }
        return p;
    }

    private void nothingIsDone() {
        says("if there is a FAULT, nothing is done");
        String[] texts = {"len 6;brake 20;ceil 0 5 3;x", "brake 20;len 6;grade 0 1 1;len 7", "beacon 1;pull 9;;"};
        int[][] want = {{26, 1}, {32, 2}, {16, 2}};
        for (int k = 0; k < texts.length; k++) {
            SpeedWarden w = busy(texts[k]);
            long ahead = w.digest();
            due("does() of '" + texts[k] + "'", w.does(), -10 - want[k][0]);
            due("digest()", w.digest(), digestBehind(ahead, 7, want[k][1] - 1, want[k][0]));
        }

        says("if an ORDER is refused, nothing is done");
        String[] refused = {"len 6;brake 20;ceil 0 5 3;long 0;", "len 200;len 4;", "beacon 1;pull 9;error 9;beacon 7;"};
        int[] orders = {3, 1, 3};
        for (int k = 0; k < refused.length; k++) {
            SpeedWarden w = busy(refused[k]);
            long ahead = w.digest();
            due("does() of '" + refused[k] + "'", w.does(), -1000 - orders[k]);
            due("digest()", w.digest(), digestBehind(ahead, 7, 2, orders[k]));
            for (int x = 0; x < 7; x++) {
                due("in force at " + x, w.cell(x, 4), x == 2 || x == 3 ? 9 : 40);
            }
        }

        says("CELLS that an ORDER took and that came again are as they were, if all is ended");
        SpeedWarden w = new SpeedWarden();
        w.lays(0, 50, 99, 7);
        w.beacon(99, 1);
        due("does()", does(w, "len 5;len 200;len 4;"), -1002);
        cellIs(w, 99, 7, 20, 1);
        due("cell(100, 0)", w.cell(100, 0), BAD);
        statesStay();
    }

    private void statesStay() {
        says("if there is a FAULT or an ORDER refused, the STATES stay");
        String[] both = {"len 6;x", "", "len 6;brake 20;len 4;", "len 4;"};
        for (String text : both) {
            SpeedWarden asked = busy(text);
            SpeedWarden twin = busy(text);
            due("does() is not done", asked.does() < 0 ? 1 : 0, 1);
            for (int k = 5; k >= 0; k--) {
                due("back()", asked.back(), k);
                twin.back();
                int size = twin.told(3);
                long want = digestBehind(twin.digest(), size, asked.why(0) - 1, asked.why(1));
                due("digest()", asked.digest(), want);
            }
        }
    }

    /**
     * Seven CELLS, a train on its way, six STATES, CAUSE 1 at place 0, and the text. What is refused comes first, so
     * that the six STATES have seen no refusal yet.
     */
    private static SpeedWarden busy(String text) {
        SpeedWarden w = new SpeedWarden();
        w.train(-1);
        w.frees();
        does(w, "x");
        w.lengthens(7);
        w.lays(0, 2, 3, 9);
        w.lays(1, 1, 4, -3);
        w.beacon(3, 1);
        w.sets(3, 50);
        w.sets(0, 12);
        w.places(1, 2);
        w.steps(1);
        types(w, text);
        return w;
    }

    private void limits(String word, int least, int most) {
        SpeedWarden w = new SpeedWarden();
        if (least > 0) {
            due(word + (least - 1), does(w, word + (least - 1) + ";"), -1000);
        }
        due(word + least, does(w, word + least + ";"), 1);
        due(word + most, does(w, word + most + ";"), 1);
        due(word + (most + 1), does(w, word + (most + 1) + ";"), -1000);
        due(word + 999, does(w, word + 999 + ";"), -1000);
        due("told(0)", w.told(0), 0);
    }

    private void limitsOfOrders() {
        says("an ORDER that its call would refuse: len");
        limits("len ", 5, 200);
        says("an ORDER that its call would refuse: brake");
        limits("brake ", 1, 60);
        says("an ORDER that its call would refuse: pull");
        limits("pull ", 0, 30);
        says("an ORDER that its call would refuse: long");
        limits("long ", 1, 30);
        says("an ORDER that its call would refuse: error");
        limits("error ", 0, 100);
        says("an ORDER that its call would refuse: beacon");
        limits("beacon ", 0, 99);
        says("an ORDER that its call would refuse: ceil");
        limits("ceil 3 3 ", 0, 60);
        limits("ceil 0 ", 99, " 9");
        limits("ceil ", 99, " 99 9");
        says("an ORDER that its call would refuse: grade");
        limits("grade 3 3 ", 0, 20);
        limits("grade 3 3 -", 0, 20);
        limits("grade 0 ", 99, " 9");
        limits("grade ", 99, " 99 9");
        says("an ORDER that its call would refuse: a is above b");
        String[] lays = {"ceil", "grade"};
        for (String word : lays) {
            done(word + " 3 4 5;", 1);
            done(word + " 3 3 5;", 1);
            due(word + " 4 3 5;", does(new SpeedWarden(), word + " 4 3 5;"), -1000);
        }
    }

    private void limits(String words, int most, String end) {
        SpeedWarden w = new SpeedWarden();
        due(words + most, does(w, words + most + end + ";"), 1);
        due(words + (most + 1), does(w, words + (most + 1) + end + ";"), -1000);
    }

    private void ordersInTheirOrder() {
        says("THE TEXT is read whole first: a FAULT goes ahead of an ORDER refused");
        fault("len 4;x", 6, 1);
        fault("len 4;len 5", 11, 2);
        fault("len 999;len 9999;", 15, 2);

        says("ORDERS are done one behind the other");
        SpeedWarden w = new SpeedWarden();
        due("does()", does(w, "len 5;len 6;ceil 0 5 7;ceil 0 2 8;"), 4);
        due("told(3)", w.told(3), 6);
        due("cell(2, 0)", w.cell(2, 0), 8);
        due("cell(3, 0)", w.cell(3, 0), 7);
        due("CELLS that went are anew", does(w, "len 5;len 6;"), 2);
        due("cell(4, 0)", w.cell(4, 0), 7);
        due("cell(5, 0)", w.cell(5, 0), 40);

        says("one that its call would refuse then, by what stands then");
        due("49 of 50", does(new SpeedWarden(), "len 50;beacon 49;"), 2);
        due("50 of 50", does(new SpeedWarden(), "len 50;beacon 50;"), -1001);
        due("149 of 150", does(new SpeedWarden(), "len 150;beacon 149;"), 2);
        due("149 of 100", does(new SpeedWarden(), "beacon 149;len 150;"), -1000);
        due("ceil of 50", does(new SpeedWarden(), "len 50;ceil 0 50 9;"), -1001);
        due("grade of 150", does(new SpeedWarden(), "len 150;grade 0 149 9;"), 2);

        says("ORDERS counted from 0 on, the first one that is refused");
        String[] texts = {"len 4;len 4;", "len 5;len 4;len 4;", "len 5;brake 5;len 5;pull 31;len 5;"};
        int[] numbers = {0, 1, 3};
        for (int k = 0; k < texts.length; k++) {
            w = new SpeedWarden();
            due("does()", does(w, texts[k]), -1000 - numbers[k]);
            due("why(0)", w.why(0), 3);
            due("why(1)", w.why(1), numbers[k]);
        }
        w = new SpeedWarden();
        due("the 24th of 24", does(w, "len5;".repeat(23) + "len4;"), -1023);
        due("why(1)", w.why(1), 23);
        due("the first of 24", does(w, "len4;" + "len5;".repeat(23)), -1000);
        due("why(1)", w.why(1), 0);
    }

    private void cause() {
        says("CAUSE becomes 1, 2, 3 by turns");
        SpeedWarden w = new SpeedWarden();
        String[] texts = {"x", "len", "len 4;", " x", "", "brake 5;len 4;", ";"};
        int[][] want = {{1, 0}, {2, 3}, {3, 0}, {1, 1}, {2, 0}, {3, 1}, {2, 0}};
        for (int k = 0; k < texts.length; k++) {
            does(w, texts[k]);
            due("why(0) behind '" + texts[k] + "'", w.why(0), want[k][0]);
            due("why(1) behind '" + texts[k] + "'", w.why(1), want[k][1]);
        }

        says("CAUSE: nothing else changes it");
        String[] faults = {"", "  x", "len 4 4", "brake 9;len 4;"};
        int[][] causes = {{0, NONE}, {1, 2}, {2, 6}, {3, 1}};
        for (int k = 0; k < faults.length; k++) {
            w = new SpeedWarden();
            if (k > 0) {
                does(w, faults[k]);
            }
            types(w, "len 7;");
            for (ToIntFunction<SpeedWarden> call : CALLS) {
                call.applyAsInt(w);
                due("why(0) behind '" + faults[k] + "' and others", w.why(0), causes[k][0]);
                due("why(1) behind '" + faults[k] + "' and others", w.why(1), causes[k][1]);
            }
        }
    }

    /** Each call, and some that are refused; THE TEXT ahead of them is len 7; */
    private static final List<ToIntFunction<SpeedWarden>> CALLS = List.of(
        w -> w.does(), w -> w.back(), w -> w.does(), w -> w.lengthens(9), w -> w.lays(0, 1, 2, 3),
        w -> w.beacon(1, 1), w -> w.sets(0, 9), w -> w.cell(1, 1), w -> w.lawful(1), w -> w.permitted(1),
        w -> w.bound(1), w -> w.stands(1, 1), w -> w.speed(1, 1), w -> w.many(1), w -> w.places(8, 20),
        w -> w.steps(1), w -> w.drives(1), w -> w.frees(), w -> w.train(1), w -> w.type(65), w -> w.clear(),
        w -> w.told(1), w -> (int) w.digest(), w -> w.back(), w -> w.lengthens(4), w -> w.frees(), w -> w.told(-1),
        w -> w.why(2));

    // ---- promise 20

    private void does() {
        says("20 how many ORDERS were done");
        done("len 5;", 1);
        done("len 5;".repeat(2), 2);
        done("len 5;".repeat(20), 20);
        done("len5;".repeat(23), 23);
        done("len5;".repeat(24), 24);

        says("20 -10 less the FAULT");
        due("0", does(new SpeedWarden(), ""), -10);
        due("1", does(new SpeedWarden(), " ;"), -11);
        due("119", does(new SpeedWarden(), BLANKS.substring(1) + ";"), -129);
        due("120", does(new SpeedWarden(), BLANKS), -130);

        says("20 THE TEXT stays");
        String[] texts = {"len 6;", "len 6;x", "len 6;len 4;"};
        int[] answers = {1, -16, -1001};
        for (int k = 0; k < texts.length; k++) {
            SpeedWarden w = new SpeedWarden();
            due("does()", does(w, texts[k]), answers[k]);
            due("told(11)", w.told(11), texts[k].length());
            due("does() again", w.does(), answers[k]);
            due("told(11)", w.told(11), texts[k].length());
            due("clear()", w.clear(), texts[k].length());
        }
        SpeedWarden w = new SpeedWarden();
        due("does()", does(w, "len 6;"), 1);
        w.type(' ');
        w.type('x');
        due("bytes come behind it", w.does(), -17);

        says("20 len brings THE TRAIN anew, other ORDERS do not");
        w = new SpeedWarden();
        w.places(3, 3);
        does(w, "ceil 0 9 9;grade 0 9 1;beacon 3;brake 9;pull 9;long 9;error 9;");
        trainIs(w, 3, 9, 3, 0, 3000, 3000);
        does(w, "len 100;");
        trainIs(w, 0, 0, 0, 0, 0, 0);

        says("20 by THE TEXT nothing counts");
        w = new SpeedWarden();
        does(w, "len 4;");
        does(w, "x");
        does(w, "");
        does(w, "beacon 100;beacon 100;");
        toldIs(w, 0, 0, 0);
    }

    // ---- STATES

    private void statesLeft() {
        says("each call told S leaves a STATE");
        leaves(w -> w.lengthens(50), 1);
        leaves(w -> w.lays(0, 1, 2, 3), 1);
        leaves(w -> w.lays(1, 1, 2, 3), 1);
        leaves(w -> w.beacon(1, 1), 1);
        leaves(w -> w.sets(0, 9), 1);
        leaves(w -> w.places(1, 1), 1);
        leaves(w -> w.steps(1), 1);
        leaves(w -> w.drives(5), 1);
        leaves(w -> does(w, "len 50;"), 1);
        SpeedWarden stopped = track(5);
        stopped.places(4, 20);
        stopped.steps(0);
        due("STATES", stopped.told(12), 3);
        due("frees()", stopped.frees(), 0);
        due("STATES", stopped.told(12), 4);

        says("also if nothing becomes other by it");
        leaves(w -> w.lengthens(100), 1);
        leaves(w -> w.lays(0, 0, 99, 40), 1);
        leaves(w -> w.lays(1, 0, 99, 0), 1);
        leaves(w -> w.beacon(1, 0), 1);
        leaves(w -> w.sets(0, 10), 1);
        leaves(w -> w.places(0, 0), 1);
        leaves(w -> w.steps(0), 1);
        leaves(w -> does(w, "len 100;"), 1);
        SpeedWarden still = new SpeedWarden();
        still.sets(1, 0);
        due("drives(5)", still.drives(5), 0);
        due("STATES", still.told(12), 2);

        says("no other call leaves one");
        leaves(w -> w.cell(1, 1), 0);
        leaves(w -> w.lawful(1), 0);
        leaves(w -> w.permitted(1), 0);
        leaves(w -> w.bound(1), 0);
        leaves(w -> w.stands(1, 1), 0);
        leaves(w -> w.speed(1, 1), 0);
        leaves(w -> w.many(1), 0);
        leaves(w -> w.train(1), 0);
        leaves(w -> w.type(65), 0);
        leaves(w -> w.clear(), 0);
        leaves(w -> w.why(0), 0);
        leaves(w -> w.told(0), 0);
        leaves(w -> (int) w.digest() & 1, 0);
        refusedLeavesNone();
    }

    private void refusedLeavesNone() {
        says("a call that is refused leaves none");
        leaves(w -> w.lengthens(4), 0);
        leaves(w -> w.lays(0, 2, 1, 3), 0);
        leaves(w -> w.beacon(1, 2), 0);
        leaves(w -> w.sets(0, 0), 0);
        leaves(w -> w.places(0, 100), 0);
        leaves(w -> w.steps(2), 0);
        leaves(w -> w.drives(0), 0);
        leaves(w -> w.frees(), 0);
        leaves(w -> w.back(), 0);

        says("does() leaves one STATE for all ORDERS, only if all was done");
        leaves(w -> does(w, "len 50;len 60;len 70;"), 1);
        leaves(w -> does(w, "len5;".repeat(24)), 1);
        leaves(w -> does(w, "len 50;len 60;len 4;"), 0);
        leaves(w -> does(w, "len 50;len 60;x"), 0);
        leaves(w -> does(w, ""), 0);
        SpeedWarden w = new SpeedWarden();
        w.sets(0, 9);
        does(w, "len 50;brake 8;ceil 0 9 9;");
        due("back()", w.back(), 1);
        toldIs(w, 0, 0, 0, 100, 9);
        due("cell(0, 0)", w.cell(0, 0), 40);
        due("back()", w.back(), 0);
        due("BRAKE", w.told(4), 10);
    }

    private void leaves(ToIntFunction<SpeedWarden> call, int states) {
        SpeedWarden w = new SpeedWarden();
        call.applyAsInt(w);
        due("STATES", w.told(12), states);
    }

    private void statesHeld() {
        says("6 STATES at most, older ones lost");
        for (int changes = 0; changes <= 9; changes++) {
            SpeedWarden w = new SpeedWarden();
            for (int k = 1; k <= changes; k++) {
                w.sets(0, 10 + k);
            }
            int held = Math.min(6, changes);
            due("STATES behind " + changes, w.told(12), held);
            for (int k = 1; k <= held; k++) {
                due("back()", w.back(), held - k);
                due("BRAKE", w.told(4), 10 + changes - k);
                due("STATES", w.told(12), held - k);
            }
            due("none is left", w.back(), NO);
            due("BRAKE", w.told(4), 10 + changes - held);
        }

        says("STATES left and gone back to by turns");
        SpeedWarden w = new SpeedWarden();
        for (int k = 1; k <= 20; k++) {
            w.sets(0, 10 + k);
            w.sets(0, 40 + k);
            due("back()", w.back(), Math.min(5, k));
            due("BRAKE", w.told(4), 10 + k);
        }
        due("STATES", w.told(12), 5);
        for (int k = 1; k <= 5; k++) {
            due("back()", w.back(), 5 - k);
            due("BRAKE", w.told(4), 30 - k);
        }
        due("back()", w.back(), NO);
        w.sets(0, 60);
        due("one anew", w.told(12), 1);
        due("back()", w.back(), 0);
        due("BRAKE", w.told(4), 25);
    }

    // ---- promise 22

    private void back() {
        says("22 NO: none");
        SpeedWarden w = new SpeedWarden();
        due("back()", w.back(), NO);
        due("told(1)", w.told(1), 1);
        w.steps(0);
        due("back()", w.back(), 0);
        due("back()", w.back(), NO);
        due("told(1)", w.told(1), 2);

        says("22 THE TRACK is back: L, CEILINGS, GRADES, BEACONS");
        w = new SpeedWarden();
        w.lays(0, 5, 99, 7);
        w.lays(1, 5, 99, 3);
        w.beacon(99, 1);
        w.lengthens(5);
        w.lengthens(200);
        cellIs(w, 99, 40, 20, 0);
        due("back()", w.back(), 4);
        due("told(3)", w.told(3), 5);
        due("back()", w.back(), 3);
        due("told(3)", w.told(3), 100);
        cellIs(w, 99, 7, 23, 1);
        due("lawful(99)", w.lawful(99), 13);
        w.back();
        cellIs(w, 99, 7, 23, 0);
        w.back();
        cellIs(w, 99, 7, 20, 0);
        w.back();
        cellIs(w, 99, 40, 20, 0);
        due("lawful(0)", w.lawful(0), 1000);
        settingsAreBack();
        trainIsBack();
        notBack();
    }

    private void settingsAreBack() {
        says("22 settings are back");
        int[] first = {10, 6, 1, 20, 1, 3, 5};
        for (int what = 0; what < 7; what++) {
            SpeedWarden w = new SpeedWarden();
            w.sets(what, 9);
            w.back();
            due("setting " + what, w.told(4 + what), first[what]);
        }
    }

    private void trainIsBack() {
        says("22 THE TRAIN is back, and its counts");
        SpeedWarden w = track(5);
        w.places(4, 20);
        trainIs(w, 4, 400, 20, 3, 4000, 4000, 4, 4, 3, 1, 0, 0, 0);
        w.steps(1);
        trainIs(w, 4, 0, 0, 3, 4000, 4000, 4, 4, 3, 1, 1, 2, 0);
        w.places(1, 2);
        w.steps(1);
        trainIs(w, 2, 10, 3, 0, 1980, 2020, 1, 3, 4, 1, 1, 1, 1);
        due("back()", w.back(), 4);
        trainIs(w, 1, 4, 2, 0, 1000, 1000, 1, 1, 6, 1, 1, 2, 0);
        w.back();
        trainIs(w, 4, 0, 0, 3, 4000, 4000, 4, 4, 3, 1, 1, 2, 0);
        w.back();
        trainIs(w, 4, 400, 20, 3, 4000, 4000, 4, 4, 3, 1, 0, 0, 0);
        w.back();
        trainIs(w, 0, 0, 0, 0, 0, 0, 0, 0, 7, 0, 0, 2, 0);

        says("22 back() from drives() and from frees()");
        w = track(5);
        w.drives(50);
        w.back();
        trainIs(w, 0, 0, 0, 0, 0, 0, 0, 0, 7, 0, 0, 2, 0);
        w.places(4, 20);
        w.steps(0);
        w.frees();
        due("MODE", w.train(3), 0);
        w.back();
        due("MODE", w.train(3), 3);
    }

    private void notBack() {
        says("22 how often refused, THE TEXT and CAUSE are not back");
        SpeedWarden w = new SpeedWarden();
        w.sets(0, 9);
        w.lengthens(4);
        w.frees();
        does(w, "  x");
        w.back();
        toldIs(w, 1, 1, 0, 100, 10, 6, 1, 20, 1, 3, 5, 3, 0);
        due("why(0)", w.why(0), 1);
        due("why(1)", w.why(1), 2);

        says("22 back() can not be taken back");
        w = new SpeedWarden();
        w.sets(0, 9);
        w.sets(0, 8);
        due("back()", w.back(), 1);
        due("BRAKE", w.told(4), 9);
        due("back()", w.back(), 0);
        due("BRAKE", w.told(4), 10);
    }

    // ---- promises 21, 23 and 24

    private void told() {
        says("23 what 0 .. 12");
        SpeedWarden w = new SpeedWarden();
        int[] strange = {LOWEST, -1, 13, 14, HIGHEST};
        for (int what : strange) {
            due("told(" + what + ")", w.told(what), BAD);
        }
        due("told(0)", w.told(0), 5);
        w.frees();
        w.back();
        types(w, BLANKS);
        for (int k = 0; k < 3; k++) {
            w.type(32);
        }
        toldIs(w, 5, 2, 3, 100, 10, 6, 1, 20, 1, 3, 5, 120, 0);
        for (int what = 0; what < 7; what++) {
            w.sets(what, 9 - what);
        }
        toldIs(w, 5, 2, 3, 100, 9, 8, 7, 6, 5, 4, 3, 120, 6);
    }

    private void why() {
        says("21 what 0, 1");
        SpeedWarden w = new SpeedWarden();
        does(w, "len 9;;");
        int[] strange = {LOWEST, -1, 2, 3, HIGHEST};
        for (int what : strange) {
            due("why(" + what + ")", w.why(what), BAD);
        }
        due("why(0)", w.why(0), 2);
        due("why(1)", w.why(1), 6);
        due("told(0)", w.told(0), 5);

        says("21 NONE at first is not refused");
        w = new SpeedWarden();
        due("why(1)", w.why(1), NONE);
        toldIs(w, 0, 0, 0);
    }

    /** The document's own words, by the calls alone, without any wrap-around but the last one. */
    private static long digestByCalls(SpeedWarden w) {
        BigInteger h = BigInteger.valueOf(1926);
        for (int what = 0; what <= 12; what++) {
            h = next(h, w.told(what));
        }
        h = next(next(h, w.why(0)), w.why(1));
        int size = w.told(3);
        for (int x = 0; x < size; x++) {
            h = next(next(next(next(h, w.cell(x, 0)), w.cell(x, 1)), w.cell(x, 2)), w.lawful(x));
        }
        for (int what = 0; what <= 12; what++) {
            h = next(h, w.train(what));
        }
        return h.longValue();
    }

    private static BigInteger next(BigInteger h, int v) {
        return h.multiply(BigInteger.valueOf(31)).add(BigInteger.valueOf(v));
    }

    private void digest() {
        says("24 digest, with a long's wrap-around");
        int[] sizes = {5, 6, 100};
        for (int size : sizes) {
            SpeedWarden w = track(size);
            due("of " + size + " CELLS", w.digest(), digestByCalls(w));
        }
        SpeedWarden w = busy("len 9");
        w.does();
        due("of a train on its way", w.digest(), digestByCalls(w));

        says("24 digest counts and changes nothing");
        long first = w.digest();
        for (int k = 0; k < 9; k++) {
            due("digest()", w.digest(), first);
        }
        due("told(0)", w.told(0), 1);
        due("told(12)", w.told(12), 6);

        says("24 each v counts");
        ofDigest(v -> v.told(-1));
        ofDigest(v -> v.frees());
        ofDigest(v -> v.lengthens(8));
        for (int what = 0; what < 7; what++) {
            int setting = what;
            ofDigest(v -> v.sets(setting, 7));
        }
        ofDigest(v -> v.type(65));
        ofDigest(v -> v.does());
        ofDigest(v -> v.lays(0, 6, 6, 1));
        ofDigest(v -> v.lays(1, 0, 0, 1));
        ofDigest(v -> v.beacon(6, 1));
        ofDigest(v -> v.steps(0));
        ofDigest(v -> v.places(4, 1));
    }

    private void ofDigest(ToIntFunction<SpeedWarden> call) {
        SpeedWarden w = busy("len 9");
        long ahead = w.digest();
        call.applyAsInt(w);
        long behind = w.digest();
        due("another digest", ahead == behind ? 1 : 0, 0);
        due("digest()", behind, digestByCalls(w));
    }

    // ---- refused calls

    private void refusals() {
        says("refused, changing nothing but how often: lengthens");
        refused(BAD, w -> w.lengthens(4));
        refused(BAD, w -> w.lengthens(201));
        says("refused, changing nothing but how often: lays");
        refused(BAD, w -> w.lays(-1, 0, 6, 1));
        refused(BAD, w -> w.lays(2, 0, 6, 1));
        refused(BAD, w -> w.lays(0, -1, 6, 1));
        refused(BAD, w -> w.lays(0, 7, 7, 1));
        refused(BAD, w -> w.lays(1, 0, 7, 1));
        refused(BAD, w -> w.lays(1, 0, -1, 1));
        refused(BAD, w -> w.lays(1, 4, 3, 1));
        refused(BAD, w -> w.lays(0, 0, 6, -1));
        refused(BAD, w -> w.lays(0, 0, 6, 61));
        refused(BAD, w -> w.lays(1, 0, 6, -21));
        refused(BAD, w -> w.lays(1, 0, 6, 21));
        says("refused, changing nothing but how often: beacon");
        refused(BAD, w -> w.beacon(-1, 1));
        refused(BAD, w -> w.beacon(7, 1));
        refused(BAD, w -> w.beacon(3, -1));
        refused(BAD, w -> w.beacon(3, 2));
        says("refused, changing nothing but how often: sets");
        refused(BAD, w -> w.sets(-1, 5));
        refused(BAD, w -> w.sets(7, 5));
        int[] above = {61, 31, 31, 101, 10, 10, 10};
        int[] below = {0, -1, 0, -1, -1, -1, -1};
        for (int k = 0; k < 7; k++) {
            int what = k;
            refused(BAD, w -> w.sets(what, above[what]));
            refused(BAD, w -> w.sets(what, below[what]));
        }
        refusedQuestions();
        refusedTrains();
        refusedTexts();
    }

    private void refusedQuestions() {
        says("refused, changing nothing but how often: cell");
        refused(BAD, w -> w.cell(-1, 0));
        refused(BAD, w -> w.cell(7, 4));
        refused(BAD, w -> w.cell(0, -1));
        refused(BAD, w -> w.cell(0, 5));
        says("refused, changing nothing but how often: lawful, permitted, bound");
        int[] none = {-1, 7};
        for (int x : none) {
            refused(BAD, w -> w.lawful(x));
            refused(BAD, w -> w.permitted(x));
            refused(BAD, w -> w.bound(x));
        }
        says("refused, changing nothing but how often: stands, speed, many");
        refused(BAD, w -> w.stands(-1, 5));
        refused(BAD, w -> w.stands(7, 5));
        refused(BAD, w -> w.stands(3, -1));
        refused(BAD, w -> w.stands(3, 100));
        refused(BAD, w -> w.speed(-1, 5));
        refused(BAD, w -> w.speed(7, 5));
        refused(BAD, w -> w.speed(3, -1));
        refused(BAD, w -> w.speed(3, 201));
        refused(BAD, w -> w.many(-1));
        refused(BAD, w -> w.many(100));
    }

    private void refusedTrains() {
        says("refused, changing nothing but how often: places");
        refused(BAD, w -> w.places(-1, 5));
        refused(BAD, w -> w.places(7, 5));
        refused(BAD, w -> w.places(3, -1));
        refused(BAD, w -> w.places(3, 100));
        says("refused, changing nothing but how often: steps");
        refused(BAD, w -> w.steps(-2));
        refused(BAD, w -> w.steps(2));
        says("refused, changing nothing but how often: drives");
        refused(BAD, w -> w.drives(0));
        refused(BAD, w -> w.drives(51));
        says("refused, changing nothing but how often: frees");
        refused(NO, w -> w.frees());
        says("refused, changing nothing but how often: train");
        refused(BAD, w -> w.train(-1));
        refused(BAD, w -> w.train(13));
    }

    private void refusedTexts() {
        says("refused, changing nothing but how often: type");
        refused(BAD, w -> w.type(-1));
        refused(BAD, w -> w.type(128));
        refused(FULL, w -> w.type(0));
        refused(FULL, w -> w.type(127));
        says("refused, changing nothing but how often: why, told");
        refused(BAD, w -> w.why(-1));
        refused(BAD, w -> w.why(2));
        refused(BAD, w -> w.told(-1));
        refused(BAD, w -> w.told(13));
        says("refused, changing nothing but how often: back");
        SpeedWarden w = busy("len 9;");
        for (int k = 0; k < 6; k++) {
            w.back();
        }
        long ahead = w.digest();
        int size = w.told(3);
        due("back()", w.back(), NO);
        due("digest()", w.digest(), ahead + power(26 + 4 * size));
    }

    /** The call on one of two objects that are alike: both go on alike, but for the one count. */
    private void refused(int kind, ToIntFunction<SpeedWarden> call) {
        String text = "brake 20;len 9;ceil 1 2 3;grade 0 8 2;beacon 8;";
        text += BLANKS.substring(text.length());
        SpeedWarden asked = busy(text);
        SpeedWarden twin = busy(text);
        due("the refusal", call.applyAsInt(asked), kind);
        alikeBut(kind, asked, twin);
        for (int k = 5; k >= 0; k--) {
            due("back()", asked.back(), k);
            twin.back();
            alikeBut(kind, asked, twin);
        }
        due("does()", asked.does(), twin.does());
        alikeBut(kind, asked, twin);
    }

    private void alikeBut(int kind, SpeedWarden asked, SpeedWarden twin) {
        int behind = 27 + kind - BAD + 4 * twin.told(3);
        due("digest() but for how often", asked.digest(), twin.digest() + power(behind));
    }

    private void manyCalls() {
        says("an object is used for 512 calls");
        SpeedWarden w = new SpeedWarden();
        for (int k = 0; k < 509; k++) {
            due("lengthens", w.lengthens(k % 2 == 0 ? 200 : 5), k == 0 ? 100 : k % 2 == 0 ? 5 : 200);
        }
        due("back()", w.back(), 5);
        due("told(3)", w.told(3), 5);
        due("told(0)", w.told(0), 0);
        w = new SpeedWarden();
        for (int k = 0; k < 510; k++) {
            due("told(-1)", w.told(-1), BAD);
        }
        due("told(0)", w.told(0), 510);
        due("told(1)", w.told(1), 0);
    }
}
