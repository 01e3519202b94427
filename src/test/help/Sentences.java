import java.util.HashSet;
import java.util.Set;

/**
 * Sentences of the document, each with the answers that are due by it. A test begins a sentence by says() and holds
 * answers against it by due(); what is wrong is told with the sentence, so that it is seen which one does not hold.
 */
abstract class Sentences {
    static final int NONE = -1, BAD = -2, NO = -3, FULL = -4;
    static final int LOWEST = Integer.MIN_VALUE, HIGHEST = Integer.MAX_VALUE;

    private final Set<String> said = new HashSet<>();
    private String sentence = "";
    private int answers, answersOfThis, wrong;

    void says(String words) {
        endsSentence();
        sentence = words;
        if (!said.add(words)) {
            fails("said twice");
        }
    }

    void due(String call, long got, long want) {
        answers++;
        answersOfThis++;
        if (got != want) {
            fails(call + " answered " + got + ", due is " + want);
        }
    }

    /** An answer that is not refused; which one it is, another sentence says. */
    void taken(String call, int got) {
        due(call + " is taken", got >= NONE ? 1 : 0, 1);
    }

    private void fails(String what) {
        wrong++;
        System.out.println("[" + sentence + "] " + what);
    }

    private void endsSentence() {
        if (!sentence.isEmpty() && answersOfThis == 0) {
            fails("has no answer that is held against it");
        }
        answersOfThis = 0;
    }

    void ends() {
        endsSentence();
        System.out.println(said.size() + " sentences, " + answers + " answers looked at, " + wrong + " not as due");
        if (wrong != 0 || said.isEmpty()) {
            System.exit(1);
        }
    }

    // ---- what the tests share

    static SpeedWarden track(int cells) {
        SpeedWarden w = new SpeedWarden();
        w.lengthens(cells);
        return w;
    }

    static void types(SpeedWarden w, String text) {
        w.clear();
        for (int k = 0; k < text.length(); k++) {
            w.type(text.charAt(k));
        }
    }

    static int does(SpeedWarden w, String text) {
        types(w, text);
        return w.does();
    }

    void trainIs(SpeedWarden w, int... values) {
        for (int what = 0; what < values.length; what++) {
            due("train(" + what + ")", w.train(what), values[what]);
        }
    }

    void toldIs(SpeedWarden w, int... values) {
        for (int what = 0; what < values.length; what++) {
            due("told(" + what + ")", w.told(what), values[what]);
        }
    }

    void cellIs(SpeedWarden w, int x, int ceiling, int gradeAnd20, int beacon) {
        due("cell(" + x + ", 0)", w.cell(x, 0), ceiling);
        due("cell(" + x + ", 1)", w.cell(x, 1), gradeAnd20);
        due("cell(" + x + ", 2)", w.cell(x, 2), beacon);
    }
}
