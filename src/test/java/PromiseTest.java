/** Each promise of the document with ordinary inputs, the edges it names, and wrong inputs; answers worked out by hand. */
public final class PromiseTest {
    private static final int LOWEST = Integer.MIN_VALUE, HIGHEST = Integer.MAX_VALUE;
    private static int wrong = 0;
    private static int asked = 0;
    private static String promise = "";

    private static void due(String call, long got, long want) {
        asked++;
        if (got != want) {
            wrong++;
            System.out.println(promise + ": " + call + " answered " + got + ", due is " + want);
        }
    }

    private static void types(SpeedWarden w, String text) {
        w.clear();
        for (int k = 0; k < text.length(); k++) {
            w.type(text.charAt(k));
        }
    }

    private static int does(SpeedWarden w, String text) {
        types(w, text);
        return w.does();
    }

    private static void trainIs(SpeedWarden w, int... values) {
        for (int what = 0; what < values.length; what++) {
            due("train(" + what + ")", w.train(what), values[what]);
        }
    }

    private static void toldIs(SpeedWarden w, int from, int... values) {
        for (int k = 0; k < values.length; k++) {
            due("told(" + (from + k) + ")", w.told(from + k), values[k]);
        }
    }

    public static void main(String[] args) {
        newObject();
        lengthens();
        lays();
        beacon();
        sets();
        cell();
        lawful();
        permitted();
        bound();
        stands();
        speed();
        many();
        places();
        steps();
        supervision();
        drives();
        frees();
        train();
        typeAndClear();
        doesWhatStands();
        faultsOfWords();
        faultsOfNumbers();
        faultsOfEnds();
        ordersRefused();
        why();
        back();
        told();
        digest();
        wrongNumbersChangeNothing();
        System.out.println(asked + " answers looked at, " + wrong + " not as due");
        if (wrong != 0) {
            System.exit(1);
        }
    }

    private static void newObject() {
        promise = "1 new object";
        SpeedWarden w = new SpeedWarden();
        toldIs(w, 0, 0, 0, 0, 100, 10, 6, 1, 20, 1, 3, 5, 0, 0);
        trainIs(w, 0, 0, 0, 0, 0, 0, 0, 0, 31, 0, 0, 2, 0);
        for (int x = 0; x < 100; x++) {
            due("cell(x, 0)", w.cell(x, 0), 40);
            due("cell(x, 1)", w.cell(x, 1), 20);
            due("cell(x, 2)", w.cell(x, 2), 0);
        }
        due("why(0)", w.why(0), 0);
        due("why(1)", w.why(1), -1);
        due("back()", w.back(), -3);
        due("clear()", w.clear(), 0);
    }

    private static void lengthens() {
        promise = "2 lengthens";
        SpeedWarden w = new SpeedWarden();
        int[] bad = {4, 201, 0, -5, LOWEST, HIGHEST};
        for (int n : bad) {
            due("lengthens(" + n + ")", w.lengthens(n), -2);
        }
        due("states behind refusals", w.told(12), 0);
        due("lengthens(200)", w.lengthens(200), 100);
        due("cell(199, 0)", w.cell(199, 0), 40);
        due("lawful(0)", w.lawful(0), 1600);
        w.lays(0, 0, 199, 7);
        w.lays(1, 0, 199, 3);
        w.beacon(5, 1);
        w.beacon(4, 1);
        due("lengthens(5)", w.lengthens(5), 200);
        due("cell(5, 0)", w.cell(5, 0), -2);
        due("cell(4, 0)", w.cell(4, 0), 7);
        due("lengthens(9)", w.lengthens(9), 5);
        due("a cell that stayed", w.cell(4, 0), 7);
        due("its grade", w.cell(4, 1), 23);
        due("its beacon", w.cell(4, 2), 1);
        due("a cell that came", w.cell(5, 0), 40);
        due("its grade", w.cell(5, 1), 20);
        due("its beacon", w.cell(5, 2), 0);

        w = new SpeedWarden();
        w.lengthens(5);
        w.places(4, 99);
        w.steps(0);
        w.places(1, 2);
        w.steps(1);
        trainIs(w, 2, 10, 3, 0, 1980, 2020, 1, 3, 4, 1, 1, 1, 1);
        due("lengthens(5)", w.lengthens(5), 5);
        trainIs(w, 0, 0, 0, 0, 0, 0, 0, 0, 7, 1, 1, 2, 1);
        w.places(0, 20);
        due("stopped", w.train(3), 3);
        w.lengthens(5);
        due("free again", w.train(3), 0);
        due("alarms stay", w.train(9), 2);
    }

    private static void lays() {
        promise = "3 lays";
        SpeedWarden w = new SpeedWarden();
        due("lays(0, 0, 99, 40)", w.lays(0, 0, 99, 40), 0);
        due("it leaves a state, too", w.told(12), 1);
        due("lays(0, 10, 19, 60)", w.lays(0, 10, 19, 60), 10);
        due("lays(0, 15, 24, 60)", w.lays(0, 15, 24, 60), 5);
        due("lays(0, 0, 0, 0)", w.lays(0, 0, 0, 0), 1);
        due("lays(1, 99, 99, 20)", w.lays(1, 99, 99, 20), 1);
        due("lays(1, 0, 99, -20)", w.lays(1, 0, 99, -20), 100);
        due("cell(9, 0)", w.cell(9, 0), 40);
        due("cell(24, 0)", w.cell(24, 0), 60);
        due("cell(25, 0)", w.cell(25, 0), 40);
        due("cell(99, 1)", w.cell(99, 1), 0);
        int[][] bad = {{2, 0, 0, 0}, {-1, 0, 0, 0}, {0, -1, 0, 5}, {0, 0, 100, 5}, {0, 100, 100, 5}, {0, 3, 2, 5},
            {0, 0, 0, 61}, {0, 0, 0, -1}, {1, 0, 0, 21}, {1, 0, 0, -21}, {LOWEST, LOWEST, HIGHEST, LOWEST},
            {1, HIGHEST, HIGHEST, HIGHEST}};
        for (int[] b : bad) {
            due("lays of wrong numbers", w.lays(b[0], b[1], b[2], b[3]), -2);
        }
        due("told(0)", w.told(0), bad.length);
        due("told(12)", w.told(12), 6);
    }

    private static void beacon() {
        promise = "4 beacon";
        SpeedWarden w = new SpeedWarden();
        due("beacon(0, 1)", w.beacon(0, 1), 0);
        due("beacon(0, 1)", w.beacon(0, 1), 1);
        due("cell(0, 2)", w.cell(0, 2), 1);
        due("beacon(0, 0)", w.beacon(0, 0), 1);
        due("beacon(0, 0)", w.beacon(0, 0), 0);
        due("cell(0, 2)", w.cell(0, 2), 0);
        due("beacon(99, 1)", w.beacon(99, 1), 0);
        due("told(12)", w.told(12), 5);
        int[][] bad = {{-1, 1}, {100, 1}, {0, 2}, {0, -1}, {LOWEST, 0}, {HIGHEST, 0}, {0, HIGHEST}};
        for (int[] b : bad) {
            due("beacon of wrong numbers", w.beacon(b[0], b[1]), -2);
        }
        due("told(12)", w.told(12), 5);
    }

    private static void sets() {
        promise = "5 sets";
        int[] first = {10, 6, 1, 20, 1, 3, 5};
        int[] least = {1, 0, 1, 0, 0, 0, 0};
        int[] most = {60, 30, 30, 100, 9, 9, 9};
        for (int what = 0; what < 7; what++) {
            SpeedWarden w = new SpeedWarden();
            due("sets below", w.sets(what, least[what] - 1), -2);
            due("sets above", w.sets(what, most[what] + 1), -2);
            due("told(12)", w.told(12), 0);
            due("sets to the most", w.sets(what, most[what]), first[what]);
            due("told", w.told(4 + what), most[what]);
            due("sets to the least", w.sets(what, least[what]), most[what]);
            due("told", w.told(4 + what), least[what]);
            due("told(12)", w.told(12), 2);
        }
        SpeedWarden w = new SpeedWarden();
        due("sets(-1, 1)", w.sets(-1, 1), -2);
        due("sets(7, 1)", w.sets(7, 1), -2);
        due("sets(LOWEST, 1)", w.sets(LOWEST, 1), -2);
        due("sets(HIGHEST, 1)", w.sets(HIGHEST, 1), -2);
    }

    private static void cell() {
        promise = "6 cell";
        SpeedWarden w = new SpeedWarden();
        w.lays(0, 10, 10, 5);
        w.lays(0, 12, 12, 9);
        w.lays(1, 10, 10, -10);
        w.lays(1, 11, 11, -9);
        w.lays(1, 12, 12, 7);
        due("decel 0 counts as 1", w.cell(10, 3), 1);
        due("decel of 1", w.cell(11, 3), 1);
        due("decel uphill", w.cell(12, 3), 17);
        w.lays(1, 11, 11, -8);
        due("decel of 2", w.cell(11, 3), 2);
        due("grade and 20", w.cell(12, 1), 27);
        due("in force, length 1", w.cell(11, 4), 40);
        w.sets(2, 3);
        int[] inForce = {40, 5, 5, 5, 9, 9, 40};
        for (int k = 0; k < inForce.length; k++) {
            due("in force at " + (9 + k), w.cell(9 + k, 4), inForce[k]);
        }
        w.sets(2, 30);
        due("the tail is not ahead of cell 0", w.cell(0, 4), 40);
        due("the last cell that 10 slows", w.cell(39, 4), 5);
        due("the last cell that 12 slows", w.cell(41, 4), 9);
        due("behind both", w.cell(42, 4), 40);
        int[] saw = {9, 3, 5, 7, 4, 8, 2, 6, 6, 1, 1, 30, 20, 25, 22, 24, 23, 21};
        for (int x = 0; x < saw.length; x++) {
            w.lays(0, x, x, saw[x]);
        }
        w.sets(2, 3);
        int[] sawInForce = {9, 3, 3, 3, 4, 4, 2, 2, 2, 1, 1, 1, 1, 20, 20, 22, 22, 21};
        for (int x = 0; x < saw.length; x++) {
            due("in force at " + x, w.cell(x, 4), sawInForce[x]);
        }
        int[][] bad = {{-1, 0}, {100, 0}, {0, -1}, {0, 5}, {LOWEST, 4}, {HIGHEST, 4}, {0, LOWEST}, {0, HIGHEST}};
        for (int[] b : bad) {
            due("cell of wrong numbers", w.cell(b[0], b[1]), -2);
        }
        due("told(0)", w.told(0), bad.length);
    }

    /** Eight cells of which 4 has ceiling 3, cell 5 falls steeply, and cell 6 rises. */
    private static SpeedWarden hilly() {
        SpeedWarden w = new SpeedWarden();
        w.lengthens(8);
        w.lays(0, 4, 4, 3);
        w.lays(1, 5, 5, -20);
        w.lays(1, 6, 6, 5);
        return w;
    }

    private static void lawful() {
        promise = "7 lawful";
        SpeedWarden w = hilly();
        int[] want = {49, 39, 29, 19, 9, 26, 25, 10};
        for (int x = 0; x < 8; x++) {
            due("lawful(" + x + ")", w.lawful(x), want[x]);
        }
        w.lays(0, 2, 2, 0);
        due("a ceiling of 0", w.lawful(2), 0);
        due("ahead of it", w.lawful(0), 20);
        w.lays(0, 0, 7, 60);
        w.sets(0, 60);
        w.lays(1, 0, 7, 20);
        due("steepest braking", w.lawful(0), 640);
        w.lengthens(200);
        due("behind, flat", w.lawful(8), 1600);
        due("over the top", w.lawful(0), 2240);
        int[] bad = {-1, 200, LOWEST, HIGHEST};
        for (int x : bad) {
            due("lawful(" + x + ")", w.lawful(x), -2);
        }
        due("told(0)", w.told(0), 4);
    }

    private static void permitted() {
        promise = "8 permitted";
        SpeedWarden w = hilly();
        int[] want = {7, 6, 5, 4, 3, 5, 5, 3};
        for (int x = 0; x < 8; x++) {
            due("permitted(" + x + ")", w.permitted(x), want[x]);
        }
        w.lays(0, 0, 0, 0);
        due("permitted(0)", w.permitted(0), 0);
        w.lengthens(200);
        w.lays(0, 0, 199, 60);
        due("permitted of 3600 and more", w.permitted(9), 43);
        w.sets(0, 60);
        due("permitted(100)", w.permitted(100), 60);
        due("permitted(-1)", w.permitted(-1), -2);
        due("permitted(200)", w.permitted(200), -2);
        due("permitted(LOWEST)", w.permitted(LOWEST), -2);
        due("told(0)", w.told(0), 3);
    }

    private static void bound() {
        promise = "9 bound";
        SpeedWarden w = hilly();
        int[] want = {4, 4, 4, 4, 4, 8, 8, 8};
        for (int x = 0; x < 8; x++) {
            due("bound(" + x + ")", w.bound(x), want[x]);
        }
        w.lengthens(10);
        w.lays(0, 0, 9, 40);
        w.lays(1, 0, 9, 0);
        w.lays(0, 9, 9, 3);
        due("ceiling below the end's braking", w.bound(9), 9);
        w.lays(0, 9, 9, 4);
        due("ceiling above the end's braking", w.bound(9), 10);
        w.sets(0, 16);
        due("both the same: the cell", w.bound(9), 9);
        w.lays(0, 7, 7, 6);
        w.sets(0, 20);
        due("16 and two times 20 is above 36", w.bound(7), 7);
        due("from ahead", w.bound(0), 7);
        w.sets(0, 10);
        w.lays(0, 7, 7, 40);
        w.lays(0, 9, 9, 40);
        due("the end binds all", w.bound(0), 10);
        due("bound(-1)", w.bound(-1), -2);
        due("bound(10)", w.bound(10), -2);
        due("bound(HIGHEST)", w.bound(HIGHEST), -2);
        due("told(0)", w.told(0), 3);
    }

    private static void stands() {
        promise = "10 stands";
        SpeedWarden w = hilly();
        due("stands(0, 0)", w.stands(0, 0), 0);
        due("stands(0, 3)", w.stands(0, 3), 0);
        due("stands(0, 4)", w.stands(0, 4), 1);
        due("stands(0, 7)", w.stands(0, 7), 4);
        due("a fall does not help", w.stands(4, 4), 2);
        due("stands(5, 1)", w.stands(5, 1), 0);
        due("stands(5, 5)", w.stands(5, 5), 2);
        due("stands(6, 5)", w.stands(6, 5), 1);
        due("stands(6, 6)", w.stands(6, 6), -1);
        due("stands(7, 3)", w.stands(7, 3), 0);
        due("stands(7, 4)", w.stands(7, 4), -1);
        due("stands(0, 99)", w.stands(0, 99), -1);
        due("NONE is no refusal", w.told(0), 0);
        w.sets(0, 9);
        due("square would be just 0", w.stands(0, 3), 0);
        w.sets(0, 8);
        due("square would be just 1", w.stands(0, 3), 1);
        due("just too fast for one cell", w.speed(0, 0), 2);
        int[][] bad = {{-1, 0}, {8, 0}, {0, -1}, {0, 100}, {LOWEST, 5}, {HIGHEST, 5}, {0, LOWEST}, {0, HIGHEST}};
        for (int[] b : bad) {
            due("stands of wrong numbers", w.stands(b[0], b[1]), -2);
        }
        due("told(0)", w.told(0), bad.length);
    }

    private static void speed() {
        promise = "11 speed";
        SpeedWarden w = hilly();
        due("speed(0, 0)", w.speed(0, 0), 3);
        due("speed(0, 1)", w.speed(0, 1), 4);
        due("speed(0, 2)", w.speed(0, 2), 5);
        due("speed(0, 200)", w.speed(0, 200), 8);
        due("speed(5, 0)", w.speed(5, 0), 1);
        due("speed(7, 200)", w.speed(7, 200), 3);
        w.lengthens(200);
        w.lays(1, 0, 199, 20);
        w.sets(0, 60);
        due("no more than 99", w.speed(0, 200), 99);
        due("stands(0, 99)", w.stands(0, 99), 122);
        due("speed(0, 122)", w.speed(0, 122), 99);
        due("speed(0, 121)", w.speed(0, 121), 98);
        w.lays(1, 0, 199, -20);
        w.sets(0, 1);
        due("the least braking", w.speed(0, 200), 14);
        due("speed(199, 0)", w.speed(199, 0), 1);
        int[][] bad = {{-1, 0}, {200, 0}, {0, -1}, {0, 201}, {LOWEST, 5}, {HIGHEST, 5}, {0, LOWEST}, {0, HIGHEST}};
        for (int[] b : bad) {
            due("speed of wrong numbers", w.speed(b[0], b[1]), -2);
        }
        due("told(0)", w.told(0), bad.length);
    }

    private static void many() {
        promise = "12 many";
        SpeedWarden w = hilly();
        int[] want = {0, 0, 0, 2, 1, 3, 1, 1, 0};
        for (int v = 0; v < want.length; v++) {
            due("many(" + v + ")", w.many(v), want[v]);
        }
        due("many(99)", w.many(99), 0);
        w.lays(0, 0, 7, 0);
        due("many(0)", w.many(0), 8);
        due("many(-1)", w.many(-1), -2);
        due("many(100)", w.many(100), -2);
        due("many(LOWEST)", w.many(LOWEST), -2);
        due("told(0)", w.told(0), 3);
    }

    private static void places() {
        promise = "13 places";
        SpeedWarden w = hilly();
        due("places(3, 5)", w.places(3, 5), 0);
        trainIs(w, 3, 25, 5, 0, 3000, 3000, 3, 3, 4, 0, 0, 0, 0);
        due("places(3, 6)", w.places(3, 6), 1);
        due("places(3, 7)", w.places(3, 7), 1);
        due("places(3, 8)", w.places(3, 8), 2);
        due("mode begins at 0", w.places(3, 7), 1);
        due("places(3, 9)", w.places(3, 9), 2);
        due("places(3, 10)", w.places(3, 10), 3);
        due("alarms", w.train(9), 1);
        due("places(3, 99)", w.places(3, 99), 3);
        due("alarms", w.train(9), 2);
        due("from mode 3 to 0", w.places(7, 0), 0);
        trainIs(w, 7, 0, 0, 0, 7000, 7000, 7, 7, 3, 2, 0, 2, 0);
        due("told(12)", w.told(12), 6);
        int[][] bad = {{-1, 0}, {8, 0}, {0, -1}, {0, 100}, {LOWEST, 5}, {HIGHEST, 5}, {0, LOWEST}, {0, HIGHEST}};
        for (int[] b : bad) {
            due("places of wrong numbers", w.places(b[0], b[1]), -2);
        }
        trainIs(w, 7, 0, 0, 0, 7000, 7000, 7, 7, 3, 2, 0, 2, 0);
    }

    private static void steps() {
        promise = "14 steps";
        SpeedWarden w = new SpeedWarden();
        due("coasting from rest", w.steps(0), 0);
        due("braking from rest", w.steps(-1), 0);
        due("they are states", w.told(12), 2);
        due("steps(1)", w.steps(1), 1);
        trainIs(w, 1, 6, 2, 0, 980, 1020, 0, 2, 31, 0, 0, 2, 1);
        due("steps(0)", w.steps(0), 1);
        trainIs(w, 2, 6, 2, 0, 1960, 2040, 1, 3, 31, 0, 0, 2, 2);
        due("steps(-1)", w.steps(-1), 1);
        trainIs(w, 3, 1, 1, 0, 2940, 3060, 2, 4, 30, 0, 0, 2, 3);
        due("steps(-1)", w.steps(-1), 0);
        trainIs(w, 3, 0, 0, 0, 2940, 3060, 2, 4, 30, 0, 0, 2, 3);
        w.beacon(4, 1);
        due("onto a beacon", w.steps(1), 1);
        trainIs(w, 4, 6, 2, 0, 4000, 4000);
        int[] bad = {-2, 2, LOWEST, HIGHEST};
        for (int handle : bad) {
            due("steps(" + handle + ")", w.steps(handle), -2);
        }
        trainIs(w, 4, 6, 2, 0, 4000, 4000);
        due("told(0)", w.told(0), 4);

        w = new SpeedWarden();
        w.sets(0, 7);
        w.places(10, 5);
        w.steps(-1);
        due("half of 7 is cut", w.train(1), 22);
        w.lays(1, 11, 11, 4);
        w.steps(-1);
        due("uphill helps to brake", w.train(1), 15);
        w.lays(1, 12, 12, -20);
        w.steps(-1);
        due("downhill is stronger than the brake", w.train(1), 32);
        w.lays(1, 13, 13, 6);
        w.steps(1);
        due("pull against a grade", w.train(1), 32);
        w.lays(1, 14, 14, -5);
        w.steps(0);
        due("coasting downhill", w.train(1), 37);
        w.places(99, 2);
        due("over the end", w.steps(0), 0);
        trainIs(w, 99, 0, 0, 0, 99000, 99000);
        due("overruns", w.train(10), 1);
        w.places(99, 1);
        due("braked at the end", w.steps(-1), 0);
        due("overruns", w.train(10), 1);
        w.places(99, 1);
        due("just over the end", w.steps(0), 0);
        due("overruns", w.train(10), 2);
        due("wentOn", w.train(12), 5);
    }

    private static void supervision() {
        promise = "14 supervision";
        SpeedWarden w = new SpeedWarden();
        w.lays(0, 0, 49, 10);
        w.sets(0, 9);
        due("places(20, 15)", w.places(20, 15), 2);
        w.steps(1);
        due("served: three quarters of 9 are 6", w.train(1), 219);
        due("219 is 14, still above 13", w.train(3), 2);
        w.lays(1, 21, 21, 20);
        w.steps(1);
        due("with a grade", w.train(1), 193);
        due("193 is 13: 2 stays", w.train(3), 2);
        w.lays(1, 22, 22, 20);
        w.lays(1, 23, 23, 20);
        w.steps(1);
        due("167 is 12: 2 stays", w.train(3), 2);
        w.steps(1);
        due("141 is 11: free", w.train(3), 0);
        due("no alarm yet", w.train(9), 0);
        due("places(20, 16)", w.places(20, 16), 3);
        w.steps(1);
        due("stopped: full braking", w.train(1), 247);
        due("alarms once", w.train(9), 1);
        w.lays(1, 0, 99, -20);
        w.steps(-1);
        due("stopped: at least 1", w.train(1), 246);
        w.lays(0, 0, 99, 60);
        w.steps(-1);
        due("3 stays whatever is lawful", w.train(3), 3);
        due("alarms once", w.train(9), 1);

        w = new SpeedWarden();
        w.lays(0, 0, 49, 10);
        w.places(20, 11);
        w.lays(1, 20, 20, -20);
        w.steps(0);
        due("141 is 11: not above 11", w.train(3), 0);
        w.lays(1, 21, 21, -3);
        w.steps(0);
        due("144 is 12: warned", w.train(3), 1);
        w.steps(0);
        due("warned yet", w.train(3), 1);
        w.steps(-1);
        due("139 is 11: free", w.train(3), 0);
        w.sets(4, 9);
        w.sets(6, 0);
        w.steps(0);
        due("stop goes ahead of warn", w.train(3), 3);
        due("alarms", w.train(9), 1);

        w = new SpeedWarden();
        w.lays(0, 10, 10, 2);
        w.sets(3, 100);
        w.places(6, 9);
        due("9 is above 6 and 1", w.train(3), 1);
        w.steps(0);
        due("seen over the span", w.train(8), 4);
        due("9 is above 4 and 3", w.train(3), 2);
    }

    private static void drives() {
        promise = "15 drives";
        SpeedWarden w = new SpeedWarden();
        w.lengthens(10);
        w.sets(3, 0);
        due("drives(1)", w.drives(1), 1);
        trainIs(w, 1, 6);
        due("drives(3)", w.drives(3), 3);
        trainIs(w, 4, 24);
        due("told(12)", w.told(12), 4);
        due("drives(50)", w.drives(50), 5);
        trainIs(w, 9, 0, 0, 0, 9000, 9000, 9, 9, 3, 0, 1, 2, 9);
        due("at the end, and over", w.drives(50), 0);
        due("overruns", w.train(10), 2);
        int[] bad = {0, 51, -1, LOWEST, HIGHEST};
        for (int n : bad) {
            due("drives(" + n + ")", w.drives(n), -2);
        }
        due("told(12)", w.told(12), 6);

        w = new SpeedWarden();
        w.lays(0, 3, 3, 0);
        due("stands where 0 is lawful ahead", w.drives(50), 2);
        trainIs(w, 2, 0);
        w.lays(0, 0, 99, 40);
        due("no more than n", w.drives(50), 50);
        due("goes on", w.train(12), 52);

        w = new SpeedWarden();
        w.places(50, 99);
        due("stopped", w.train(3), 3);
        due("stopped: it brakes fully, and runs over", w.drives(50), 49);
        trainIs(w, 99, 0, 0, 3);
        due("overruns", w.train(10), 1);
    }

    private static void frees() {
        promise = "16 frees";
        SpeedWarden w = new SpeedWarden();
        due("mode 0", w.frees(), -3);
        w.lengthens(5);
        due("places(4, 20)", w.places(4, 20), 3);
        due("square is not 0", w.frees(), -3);
        due("told(12)", w.told(12), 2);
        w.steps(0);
        due("frees()", w.frees(), 0);
        due("train(3)", w.train(3), 0);
        due("told(12)", w.told(12), 4);
        due("mode 0", w.frees(), -3);
        due("told(1)", w.told(1), 3);
        due("told(0)", w.told(0), 0);
    }

    private static void train() {
        promise = "17 train";
        SpeedWarden w = new SpeedWarden();
        int[] bad = {-1, 13, LOWEST, HIGHEST};
        for (int what : bad) {
            due("train(" + what + ")", w.train(what), -2);
        }
        due("told(0)", w.told(0), 4);

        w.lengthens(40);
        w.sets(3, 100);
        w.places(36, 1);
        w.steps(1);
        w.steps(1);
        w.steps(0);
        trainIs(w, 39, 13, 3, 0, 38700, 39300, 38, 39, 3, 0, 0, 0, 3);

        w.lengthens(200);
        w.sets(3, 1);
        w.places(179, 3);
        w.steps(0);
        trainIs(w, 180, 9, 3, 0, 179999, 180001, 179, 181, 13);

        w = new SpeedWarden();
        w.lays(0, 5, 5, 2);
        w.places(3, 4);
        due("16 and 6 is above 14: coasts to 16, too: brakes", w.train(11), 0);
        w.places(3, 2);
        due("4 and 6 is no more than 14", w.train(11), 2);
        w.places(3, 3);
        due("9 and 6 is above 14, 9 is not", w.train(11), 1);
        w.places(2, 5);
        due("25 is above 24, the cell behind the span counts", w.train(11), 0);
        w.places(4, 2);
        due("4 and 6 is above 4, 4 is not", w.train(11), 1);
        w.places(4, 99);
        due("as if mode were 0", w.train(11), 0);
        w.lays(1, 4, 4, 20);
        w.places(4, 4);
        due("uphill all is lawful", w.train(11), 2);
    }

    private static void typeAndClear() {
        promise = "18 type, 19 clear";
        SpeedWarden w = new SpeedWarden();
        due("type(0)", w.type(0), 1);
        due("type(127)", w.type(127), 2);
        due("type(-1)", w.type(-1), -2);
        due("type(128)", w.type(128), -2);
        due("type(LOWEST)", w.type(LOWEST), -2);
        due("type(HIGHEST)", w.type(HIGHEST), -2);
        for (int k = 3; k <= 120; k++) {
            due("type(32)", w.type(32), k);
        }
        due("type(32)", w.type(32), -4);
        due("BAD goes ahead of FULL", w.type(128), -2);
        due("told(0)", w.told(0), 5);
        due("told(2)", w.told(2), 1);
        due("told(11)", w.told(11), 120);
        due("told(12)", w.told(12), 0);
        due("clear()", w.clear(), 120);
        due("told(11)", w.told(11), 0);
        due("clear()", w.clear(), 0);
        due("type(59)", w.type(59), 1);
        due("told(12)", w.told(12), 0);
    }

    private static void doesWhatStands() {
        promise = "20 does";
        SpeedWarden w = new SpeedWarden();
        due("all words", does(w, "len 50;ceil 10 19 15;grade 0 9 -4;beacon 25;brake 8;pull 9;long 2;error 0;"), 8);
        toldIs(w, 3, 50, 8, 9, 2, 0, 1, 3, 5, 74, 1);
        due("cell(10, 0)", w.cell(10, 0), 15);
        due("cell(19, 0)", w.cell(19, 0), 15);
        due("cell(20, 0)", w.cell(20, 0), 40);
        due("cell(9, 1)", w.cell(9, 1), 16);
        due("cell(25, 2)", w.cell(25, 2), 1);
        due("lawful behind does", w.lawful(9), 229);
        due("the text stays and is done again", w.does(), 8);
        due("told(12)", w.told(12), 2);
        due("back()", w.back(), 1);
        due("back()", w.back(), 0);
        due("all is as ahead of it", w.told(3), 100);
        due("brake, too", w.told(4), 10);
        due("lawful(9)", w.lawful(9), 910);

        due("no blanks where none is needed", does(w, "len50;grade1 2-3;beacon7;"), 3);
        due("cell(1, 1)", w.cell(1, 1), 17);
        due("blanks all over", does(w, "  grade  3   4   -5  ;  len 60 ;  "), 2);
        due("cell(4, 1)", w.cell(4, 1), 15);
        due("figures ahead of others", does(w, "brake 007;grade 0 0 -0;grade 1 1 -020;pull 00;"), 4);
        due("told(4)", w.told(4), 7);
        due("cell(1, 1)", w.cell(1, 1), 0);
        due("24 orders", does(w, "len5;".repeat(23) + "len6;"), 24);
        due("told(3)", w.told(3), 6);
        due("a text of 120", w.told(11), 120);

        w = new SpeedWarden();
        w.places(3, 5);
        does(w, "brake 9;");
        due("the train stays", w.train(0), 3);
        does(w, "len 100;");
        due("the train is anew", w.train(0), 0);
        does(w, "ceil 0 0 7;ceil 0 0 8;");
        due("one behind the other", w.cell(0, 0), 8);
        due("told(12)", w.told(12), 4);
    }

    private static void fault(String text, int place, int cause) {
        SpeedWarden w = new SpeedWarden();
        due("does() of '" + text + "'", does(w, text), -10 - place);
        due("why(0) of '" + text + "'", w.why(0), cause);
        due("why(1) of '" + text + "'", w.why(1), place);
        due("told(12) of '" + text + "'", w.told(12), 0);
        due("told(0) of '" + text + "'", w.told(0), 0);
        due("told(3) of '" + text + "'", w.told(3), 100);
        due("told(4) of '" + text + "'", w.told(4), 10);
    }

    private static void faultsOfWords() {
        promise = "20 faults of words";
        fault("break 7;", 0, 1);
        fault("lenx 7;", 0, 1);
        fault("le", 0, 1);
        fault("le 7;", 0, 1);
        fault("  x", 2, 1);
        fault("brake 7;cei", 8, 1);
        fault("brake 7; ceill 1 2 3;", 9, 1);
        fault("warn 3;", 0, 1);
        fault("lenlen 7;", 0, 1);
        fault("a", 0, 1);
        fault(";", 0, 2);
        fault("brake 7;;", 8, 2);
        fault("brake 7; 8;", 9, 2);
        fault("Len 50;", 0, 2);
        fault("leN 50;", 0, 1);
        fault("\t", 0, 2);
        fault("7;", 0, 2);
        fault("-", 0, 2);
        fault("l en 50;", 0, 1);
    }

    private static void faultsOfNumbers() {
        promise = "20 faults of numbers";
        fault("len 1234;", 7, 2);
        fault("ceil 1234 2 3;", 8, 2);
        fault("grade 1 2 -1234;", 14, 2);
        fault("grade 1 2 - 4;", 11, 2);
        fault("grade 1 2 --4;", 11, 2);
        fault("grade 1 2 -;", 11, 2);
        fault("grade 1 -2 4;", 8, 2);
        fault("grade -1 2 4;", 6, 2);
        fault("ceil 1 2 -3;", 9, 2);
        fault("len -5;", 4, 2);
        fault("len;", 3, 2);
        fault("len ;", 4, 2);
        fault("ceil 1 2;", 8, 2);
        fault("ceil 1 2 3 4;", 11, 2);
        fault("len 5 6;", 6, 2);
        fault("len x;", 4, 2);
        fault("len len 5;", 4, 2);
        fault("len 5 pull 3;", 6, 2);
        fault("len 5x;", 5, 2);
        fault("len 5 0;", 6, 2);
        fault("len +5;", 4, 2);
        fault("ceil 1,2,3;", 6, 2);
        fault("len 5:", 5, 2);
        fault("len /;", 4, 2);
        fault("len :;", 4, 2);
    }

    private static void faultsOfEnds() {
        promise = "20 faults of ends";
        fault("", 0, 2);
        fault("   ", 3, 2);
        fault("len", 3, 2);
        fault("len ", 4, 2);
        fault("len 5", 5, 2);
        fault("len 5 ", 6, 2);
        fault("ceil 1 2", 8, 2);
        fault("grade 1 2 -", 11, 2);
        fault("grade 1 2 -4", 12, 2);
        fault("brake 7;len", 11, 2);
        fault("len 250; pull", 13, 2);
        fault(" ".repeat(120), 120, 2);
        fault("len5;".repeat(23) + "len55", 120, 2);
    }

    private static void ordersRefused() {
        promise = "20 orders refused";
        String[] texts = {"len 4;", "len 201;", "ceil 0 100 5;", "ceil 3 2 5;", "ceil 0 0 61;", "grade 0 0 -21;",
            "grade 0 0 21;", "beacon 100;", "brake 0;", "brake 61;", "pull 31;", "long 0;", "long 31;", "error 101;"};
        for (String text : texts) {
            orderRefused(text);
        }
        SpeedWarden w = new SpeedWarden();
        w.places(3, 5);
        due("refused by what stands then", does(w, "len 50;beacon 50;"), -1001);
        due("lawful by what stands then", does(w, "len 150;beacon 149;"), 2);
        due("a fault goes ahead of what is refused", does(w, "len 4;x"), -16);
        due("back()", w.back(), 1);
        due("told(3)", w.told(3), 100);
        due("train(0)", w.train(0), 3);
    }

    private static void orderRefused(String text) {
        SpeedWarden w = new SpeedWarden();
        w.places(3, 5);
        due("does() of '" + text + "'", does(w, text), -1000);
        due("why(0)", w.why(0), 3);
        due("why(1)", w.why(1), 0);
        due("does() of it behind others", does(w, "len 100;ceil 0 9 3;" + text + "len 4;"), -1002);
        due("why(1)", w.why(1), 2);
        due("cell(0, 0)", w.cell(0, 0), 40);
        due("lawful(0)", w.lawful(0), 1000);
        due("train(0)", w.train(0), 3);
        toldIs(w, 0, 0, 0, 0);
        due("told(12)", w.told(12), 1);
    }

    private static void why() {
        promise = "21 why";
        SpeedWarden w = new SpeedWarden();
        due("why(-1)", w.why(-1), -2);
        due("why(2)", w.why(2), -2);
        due("why(LOWEST)", w.why(LOWEST), -2);
        due("told(0)", w.told(0), 3);
        does(w, "len 50;oops");
        due("why(0)", w.why(0), 1);
        due("why(1)", w.why(1), 7);
        does(w, "len 50;");
        due("what goes well does not change it", w.why(0), 1);
        due("nor where", w.why(1), 7);
        w.back();
        due("nor does back()", w.why(0), 1);
        due("nor where", w.why(1), 7);
        w.lengthens(4);
        w.clear();
        due("nor a refusal", w.why(0), 1);
        w.does();
        due("an empty text does", w.why(0), 2);
        due("why(1)", w.why(1), 0);
    }

    private static void back() {
        promise = "22 back";
        SpeedWarden w = new SpeedWarden();
        due("back()", w.back(), -3);
        due("told(1)", w.told(1), 1);
        for (int n = 5; n <= 12; n++) {
            w.lengthens(n);
        }
        due("told(12)", w.told(12), 6);
        for (int k = 5; k >= 0; k--) {
            due("back()", w.back(), k);
            due("told(3)", w.told(3), 6 + k);
        }
        due("older ones are lost", w.back(), -3);
        due("told(3)", w.told(3), 6);
        due("told(1)", w.told(1), 2);

        w = new SpeedWarden();
        w.lengthens(20);
        w.lays(0, 3, 5, 9);
        w.lays(1, 3, 5, 2);
        w.beacon(7, 1);
        w.sets(3, 50);
        w.places(4, 99);
        long ahead = w.digest();
        w.steps(1);
        w.lengthens(10);
        w.lengthens(30);
        w.sets(0, 33);
        w.lengthens(4);
        w.places(29, 3);
        w.steps(1);
        type(w);
        due("told(12)", w.told(12), 6);
        for (int k = 5; k >= 0; k--) {
            due("back()", w.back(), k);
        }
        toldIs(w, 0, 1, 0, 0, 20, 10, 6, 1, 50, 1, 3, 5, 1, 0);
        due("cell(4, 0)", w.cell(4, 0), 9);
        due("cell(4, 1)", w.cell(4, 1), 22);
        due("cell(7, 2)", w.cell(7, 2), 1);
        due("lawful(4)", w.lawful(4), 81);
        trainIs(w, 4, 9801, 99, 3, 4000, 4000, 4, 4, 9, 1, 0, 0, 0);
        due("another digest: refusals and the text stay", ahead == w.digest() ? 1 : 0, 0);

        backFromEach();

        w = new SpeedWarden();
        w.lengthens(50);
        w.back();
        due("back() leaves no state", w.told(12), 0);
        w.sets(0, 11);
        due("and goes on behind it", w.told(12), 1);
        due("back()", w.back(), 0);
        due("told(4)", w.told(4), 10);
        due("told(3)", w.told(3), 100);
    }

    /** Each call told S, behind others that made all as no new object is. */
    private static void backFromEach() {
        for (int call = 0; call < 10; call++) {
            SpeedWarden w = new SpeedWarden();
            types(w, "len 40;brake 3;ceil 1 1 1;grade 2 2 2;beacon 3;");
            w.lengthens(30);
            w.lays(1, 0, 29, -1);
            w.beacon(29, 1);
            w.places(29, 99);
            w.steps(0);
            long ahead = w.digest();
            due("call " + call + " is not refused", oneOf(w, call) >= 0 ? 1 : 0, 1);
            due("call " + call + " and back", w.back(), 5);
            due("digest behind call " + call, w.digest(), ahead);
        }
    }

    private static int oneOf(SpeedWarden w, int call) {
        switch (call) {
            case 0: return w.lengthens(17);
            case 1: return w.lays(0, 2, 7, 33);
            case 2: return w.lays(1, 2, 7, 11);
            case 3: return w.beacon(29, 0);
            case 4: return w.sets(0, 50);
            case 5: return w.places(12, 60);
            case 6: return w.steps(1);
            case 7: return w.frees();
            case 8: return w.drives(9);
            default: return w.does();
        }
    }

    private static void type(SpeedWarden w) {
        due("type(65)", w.type(65), 1);
    }

    private static void told() {
        promise = "23 told";
        SpeedWarden w = new SpeedWarden();
        int[] bad = {-1, 13, LOWEST, HIGHEST};
        for (int what : bad) {
            due("told(" + what + ")", w.told(what), -2);
        }
        w.frees();
        w.back();
        for (int k = 0; k < 123; k++) {
            w.type(65);
        }
        toldIs(w, 0, 4, 2, 3, 100, 10, 6, 1, 20, 1, 3, 5, 120, 0);
        for (int what = 0; what < 7; what++) {
            w.sets(what, 9 - what);
        }
        toldIs(w, 3, 100, 9, 8, 7, 6, 5, 4, 3, 120, 6);
    }

    /** The document's own words, by the calls alone. */
    private static long digestByCalls(SpeedWarden w) {
        long h = 1926;
        for (int what = 0; what <= 12; what++) {
            h = 31 * h + w.told(what);
        }
        h = 31 * h + w.why(0);
        h = 31 * h + w.why(1);
        int cells = w.told(3);
        for (int x = 0; x < cells; x++) {
            h = 31 * h + w.cell(x, 0);
            h = 31 * h + w.cell(x, 1);
            h = 31 * h + w.cell(x, 2);
            h = 31 * h + w.lawful(x);
        }
        for (int what = 0; what <= 12; what++) {
            h = 31 * h + w.train(what);
        }
        return h;
    }

    private static void digest() {
        promise = "24 digest";
        SpeedWarden w = hilly();
        w.beacon(3, 1);
        w.places(2, 9);
        w.steps(1);
        w.steps(7);
        w.frees();
        does(w, "len 8;oops;");
        due("digest()", w.digest(), digestByCalls(w));
        due("digest() again", w.digest(), digestByCalls(w));
        due("it leaves no state", w.told(12), 6);
    }

    private static void wrongNumbersChangeNothing() {
        promise = "refusals";
        SpeedWarden w = hilly();
        w.places(2, 9);
        w.steps(1);
        w.type(108);
        SpeedWarden same = hilly();
        same.places(2, 9);
        same.steps(1);
        same.type(108);
        w.lengthens(201);
        w.lays(0, 0, 8, 1);
        w.beacon(8, 1);
        w.sets(2, 0);
        w.places(8, 0);
        w.steps(3);
        w.drives(99);
        w.type(200);
        for (int k = 0; k < 8; k++) {
            same.train(99);
        }
        due("only the count of them is another", w.digest(), same.digest());
        due("told(0)", w.told(0), 8);
    }
}
