/** The track and what is lawful on it (promises 1 to 12): each sentence that names a boundary, on both its sides. */
public final class TrackSentencesTest extends Sentences {
    public static void main(String[] args) {
        new TrackSentencesTest().all();
    }

    private void all() {
        newObject();
        limitsOfTheTrack();
        limitsOfCells();
        limitsOfSettings();
        decel();
        ceilingInForce();
        lawful();
        permitted();
        bound();
        lengthens();
        lays();
        beacon();
        sets();
        cell();
        stands();
        speed();
        many();
        ends();
    }

    // ---- promise 1

    private void newObject() {
        says("1 L is 100 at first");
        SpeedWarden w = new SpeedWarden();
        due("told(3)", w.told(3), 100);
        due("cell(99, 0)", w.cell(99, 0), 40);
        due("cell(100, 0)", w.cell(100, 0), BAD);

        says("1 CEILING 40, GRADE 0, no BEACON at first");
        w = new SpeedWarden();
        for (int x = 0; x < 100; x++) {
            cellIs(w, x, 40, 20, 0);
        }

        says("1 the settings at first");
        w = new SpeedWarden();
        int[] first = {10, 6, 1, 20, 1, 3, 5};
        for (int k = 0; k < 7; k++) {
            due("told(" + (4 + k) + ")", w.told(4 + k), first[k]);
        }

        says("1 the train at first: FRONT, SQUARE, MODE, ODOMETER and counts are 0");
        w = new SpeedWarden();
        trainIs(w, 0, 0, 0, 0, 0, 0, 0, 0, 31, 0, 0, 2, 0);

        says("1 nothing refused, no TEXT, no STATE, no CAUSE at first");
        w = new SpeedWarden();
        toldIs(w, 0, 0, 0);
        due("told(11)", w.told(11), 0);
        due("told(12)", w.told(12), 0);
        due("why(0)", w.why(0), 0);
        due("why(1)", w.why(1), NONE);
        due("clear()", w.clear(), 0);
        due("back()", w.back(), NO);

        says("1 objects share nothing");
        w = new SpeedWarden();
        SpeedWarden other = new SpeedWarden();
        long ahead = other.digest();
        w.lays(0, 0, 99, 1);
        w.places(3, 9);
        w.sets(0, 60);
        w.type(65);
        w.told(-1);
        w.frees();
        w.does();
        due("digest()", other.digest(), ahead);
        due("digest() of a third", new SpeedWarden().digest(), ahead);
    }

    // ---- terms: the least and the greatest values

    private void limitsOfTheTrack() {
        says("L 5 .. 200");
        SpeedWarden w = new SpeedWarden();
        int[] bad = {LOWEST, -200, -5, -1, 0, 4, 201, 1000, HIGHEST};
        for (int n : bad) {
            due("lengthens(" + n + ")", w.lengthens(n), BAD);
            due("told(3)", w.told(3), 100);
        }
        due("lengthens(5)", w.lengthens(5), 100);
        due("told(3)", w.told(3), 5);
        due("lengthens(200)", w.lengthens(200), 5);
        due("told(3)", w.told(3), 200);

        says("CEILING 0 .. 60");
        limitsOfLays(0, 0, 60, 0);

        says("GRADE -20 .. 20");
        limitsOfLays(1, -20, 20, 20);
    }

    /** What a call answers of CELL x; the other numbers of the call are as told. */
    private interface OfCell {
        int asks(SpeedWarden w, int x);
    }

    private void limitsOfCells() {
        takesCells("3 CELL a of lays: 0 .. L less 1", (w, x) -> w.lays(0, x, w.told(3) - 1, 40));
        takesCells("3 CELL b of lays: 0 .. L less 1", (w, x) -> w.lays(1, 0, x, 0));
        takesCells("3 CELLS a and b of lays: 0 .. L less 1", (w, x) -> w.lays(0, x, x, 40));
        takesCells("4 CELL a of beacon: 0 .. L less 1", (w, x) -> w.beacon(x, 0));
        for (int k = 0; k <= 4; k++) {
            int what = k;
            takesCells("6 CELL x of cell, what " + what + ": 0 .. L less 1", (w, x) -> w.cell(x, what));
        }
        takesCells("7 CELL x of lawful: 0 .. L less 1", (w, x) -> w.lawful(x));
        takesCells("8 CELL x of permitted: 0 .. L less 1", (w, x) -> w.permitted(x));
        takesCells("9 CELL x of bound: 0 .. L less 1", (w, x) -> w.bound(x));
        takesCells("10 CELL x of stands: 0 .. L less 1", (w, x) -> w.stands(x, 0));
        takesCells("11 CELL x of speed: 0 .. L less 1", (w, x) -> w.speed(x, 0));
        takesCells("13 CELL x of places: 0 .. L less 1", (w, x) -> w.places(x, 0));
    }

    private void takesCells(String words, OfCell call) {
        says(words);
        int[] sizes = {5, 6, 100, 199, 200};
        for (int size : sizes) {
            SpeedWarden w = track(size);
            taken("CELL 0 of " + size, call.asks(w, 0));
            taken("CELL " + (size - 1) + " of " + size, call.asks(w, size - 1));
            int[] none = {LOWEST, -1, size, size + 1, HIGHEST};
            for (int x : none) {
                due("CELL " + x + " of " + size, call.asks(w, x), BAD);
            }
            due("told(0)", w.told(0), none.length);
        }
    }

    private void limitsOfLays(int what, int least, int most, int shift) {
        SpeedWarden w = new SpeedWarden();
        int[] values = {least, most};
        int[] bad = {LOWEST, least - 1, most + 1, HIGHEST};
        for (int v : values) {
            due("lays " + v, w.lays(what, 2, 2, v), 1);
            due("cell(2, " + what + ")", w.cell(2, what), v + shift);
            for (int b : bad) {
                due("lays " + b, w.lays(what, 2, 2, b), BAD);
                due("cell(2, " + what + ")", w.cell(2, what), v + shift);
            }
        }
    }

    private void limitsOfSettings() {
        setting("BRAKE 1 .. 60; 10", 0, 1, 60, 10);
        setting("PULL 0 .. 30; 6", 1, 0, 30, 6);
        setting("LENGTH 1 .. 30; 1", 2, 1, 30, 1);
        setting("ERROR 0 .. 100; 20", 3, 0, 100, 20);
        setting("WARN 0 .. 9; 1", 4, 0, 9, 1);
        setting("SERVE 0 .. 9; 3", 5, 0, 9, 3);
        setting("STOP 0 .. 9; 5", 6, 0, 9, 5);
    }

    private void setting(String words, int what, int least, int most, int first) {
        says(words);
        SpeedWarden w = new SpeedWarden();
        due("at first", w.told(4 + what), first);
        int[] bad = {LOWEST, least - 1, most + 1, HIGHEST};
        int[] values = {least, most};
        int was = first;
        for (int v : values) {
            due("sets to " + v, w.sets(what, v), was);
            for (int b : bad) {
                due("sets to " + b, w.sets(what, b), BAD);
                due("told", w.told(4 + what), v);
            }
            was = v;
        }
    }

    // ---- terms: what is lawful

    private void decel() {
        says("DECEL: BRAKE + GRADE; 1, if that is below 1");
        int[][] due = {{10, -7, 3}, {10, -8, 2}, {10, -9, 1}, {10, -10, 1}, {10, -11, 1}, {10, -20, 1}, {1, -20, 1},
            {1, -1, 1}, {1, 0, 1}, {1, 1, 2}, {20, -20, 1}, {21, -20, 1}, {22, -20, 2}, {10, 20, 30}, {60, 20, 80}};
        SpeedWarden w = track(5);
        for (int[] d : due) {
            w.sets(0, d[0]);
            w.lays(1, 4, 4, d[1]);
            due("BRAKE " + d[0] + ", GRADE " + d[1], w.cell(4, 3), d[2]);
            due("LAWFUL by it", w.lawful(4), d[2]);
        }

        says("DECEL below 1 is 1 for stands() and speed(), too");
        w = track(5);
        w.lays(1, 0, 4, -20);
        due("lawful(0)", w.lawful(0), 5);
        due("stands(4, 1)", w.stands(4, 1), 0);
        due("stands(4, 2)", w.stands(4, 2), NONE);
        due("stands(1, 2)", w.stands(1, 2), 3);
        due("stands(2, 2)", w.stands(2, 2), NONE);
        due("speed(0, 2)", w.speed(0, 2), 1);
        due("speed(0, 3)", w.speed(0, 3), 2);
    }

    private void inForceIs(SpeedWarden w, int length, int from, int... want) {
        w.sets(2, length);
        for (int k = 0; k < want.length; k++) {
            due("in force at " + (from + k) + " by LENGTH " + length, w.cell(from + k, 4), want[k]);
        }
    }

    private void ceilingInForce() {
        says("CEILING IN FORCE: of the CELLS from x - LENGTH + 1 to x");
        SpeedWarden w = new SpeedWarden();
        w.lays(0, 50, 50, 5);
        inForceIs(w, 1, 49, 40, 5, 40);
        inForceIs(w, 2, 49, 40, 5, 5, 40);
        inForceIs(w, 3, 49, 40, 5, 5, 5, 40);
        inForceIs(w, 29, 77, 5, 5, 40);
        inForceIs(w, 30, 48, 40, 40, 5);
        inForceIs(w, 30, 78, 5, 5, 40);

        says("CEILING IN FORCE: the least one");
        w = new SpeedWarden();
        w.lays(0, 50, 50, 5);
        w.lays(0, 51, 51, 7);
        w.lays(0, 52, 52, 3);
        inForceIs(w, 1, 49, 40, 5, 7, 3, 40);
        inForceIs(w, 2, 49, 40, 5, 5, 3, 3, 40);
        inForceIs(w, 3, 49, 40, 5, 5, 3, 3, 3, 40);
        w.lays(0, 53, 53, 60);
        w.lays(0, 54, 54, 0);
        inForceIs(w, 1, 52, 3, 60, 0, 40);
        inForceIs(w, 2, 52, 3, 3, 0, 0, 40);
        w = new SpeedWarden();
        int[] saw = {9, 3, 5, 7, 4, 8, 2, 6, 6, 1, 1, 30, 20, 25, 22, 24, 23};
        for (int x = 0; x < saw.length; x++) {
            w.lays(0, x, x, saw[x]);
        }
        inForceIs(w, 2, 0, 9, 3, 3, 5, 4, 4, 2, 2, 6, 1, 1, 1, 20, 20, 22, 22, 23, 23, 40);
        inForceIs(w, 3, 0, 9, 3, 3, 3, 4, 4, 2, 2, 2, 1, 1, 1, 1, 20, 20, 22, 22, 23, 23, 40);
        inForceIs(w, 4, 0, 9, 3, 3, 3, 3, 4, 2, 2, 2, 1, 1, 1, 1, 1, 20, 20, 22, 22, 23, 23, 40);
        inForceIs(w, 30, 38, 1, 1, 20, 20, 22, 22, 23, 23, 40);

        says("CEILING IN FORCE: from CELL 0, if x - LENGTH + 1 is below 0");
        w = new SpeedWarden();
        w.lays(0, 0, 0, 5);
        inForceIs(w, 30, 0, 5, 5);
        inForceIs(w, 30, 28, 5, 5, 40);
        inForceIs(w, 2, 0, 5, 5, 40);
        inForceIs(w, 1, 0, 5, 40);
        w.lays(0, 0, 0, 40);
        w.lays(0, 1, 1, 9);
        inForceIs(w, 30, 0, 40, 9, 9);
        inForceIs(w, 30, 29, 9, 9, 40);
        w.lengthens(5);
        inForceIs(w, 30, 0, 40, 9, 9, 9, 9);
    }

    private void lawful() {
        says("LAWFUL of CELL L is 0");
        int[] sizes = {5, 100, 200};
        for (int size : sizes) {
            SpeedWarden w = track(size);
            due("the last CELL of " + size, w.lawful(size - 1), 10);
            due("the one ahead of it", w.lawful(size - 2), 20);
            due("there is no CELL L", w.lawful(size), BAD);
        }

        says("LAWFUL of the last CELL: the lesser one of its CEILING times itself, and DECEL");
        SpeedWarden w = track(5);
        int[][] last = {{16, 3, 9}, {16, 4, 16}, {16, 5, 16}, {15, 4, 15}, {17, 4, 16}, {60, 7, 49}, {60, 8, 60},
            {1, 0, 0}, {1, 1, 1}, {2, 1, 1}, {1, 60, 1}};
        for (int[] d : last) {
            w.sets(0, d[0]);
            w.lays(0, 4, 4, d[1]);
            due("BRAKE " + d[0] + ", CEILING " + d[1], w.lawful(4), d[2]);
        }

        says("LAWFUL of x: the lesser one of its CEILING times itself, and LAWFUL of x + 1 and DECEL of x together");
        w = track(5);
        w.lays(0, 3, 3, 4);
        int[][] inner = {{7, 14}, {8, 16}, {9, 16}};
        for (int[] d : inner) {
            w.sets(0, d[0]);
            due("lawful(3) by BRAKE " + d[0], w.lawful(3), d[1]);
            due("lawful(2) by BRAKE " + d[0], w.lawful(2), d[1] + d[0]);
        }
        lawfulByItsOwn();
        lawfulAtMost();
    }

    private void lawfulByItsOwn() {
        says("LAWFUL of x: by x's own DECEL and by the CEILING IN FORCE");
        SpeedWarden w = track(6);
        w.lays(1, 3, 3, 5);
        int[] byGrade = {65, 55, 45, 35, 20, 10};
        for (int x = 0; x < 6; x++) {
            due("lawful(" + x + ")", w.lawful(x), byGrade[x]);
        }
        w.lays(0, 1, 1, 2);
        w.sets(2, 2);
        int[] byLength = {14, 4, 4, 35, 20, 10};
        for (int x = 0; x < 6; x++) {
            due("lawful(" + x + ") by LENGTH 2", w.lawful(x), byLength[x]);
        }

        says("LAWFUL by a CEILING of 0 is 0");
        w = track(6);
        w.lays(0, 2, 2, 0);
        int[] byNought = {20, 10, 0, 30, 20, 10};
        for (int x = 0; x < 6; x++) {
            due("lawful(" + x + ")", w.lawful(x), byNought[x]);
        }
    }

    private void lawfulAtMost() {
        says("LAWFUL by a CEILING of 60 is 3600 at most");
        SpeedWarden w = track(200);
        w.lays(0, 0, 199, 60);
        w.sets(0, 60);
        due("59 CELLS by 60", w.lawful(141), 3540);
        due("60 CELLS by 60", w.lawful(140), 3600);
        due("61 CELLS by 60", w.lawful(139), 3600);
        due("lawful(0)", w.lawful(0), 3600);

        says("LAWFUL is drawn anew by each change of THE TRACK and of settings");
        w = track(5);
        due("lawful(0)", w.lawful(0), 50);
        w.lengthens(6);
        due("behind lengthens", w.lawful(0), 60);
        w.lays(1, 5, 5, -3);
        due("behind lays of a GRADE", w.lawful(0), 57);
        w.sets(0, 11);
        due("behind sets of BRAKE", w.lawful(0), 63);
        w.lays(0, 0, 0, 7);
        due("behind lays of a CEILING", w.lawful(0), 49);
        due("LENGTH 1", w.lawful(1), 52);
        w.sets(2, 2);
        due("behind sets of LENGTH", w.lawful(1), 49);
        w.back();
        due("behind back()", w.lawful(1), 52);
        does(w, "ceil 1 1 7;");
        due("behind does()", w.lawful(1), 49);
        does(w, "ceil 1 1 6;len 4;");
        due("behind does() that is refused", w.lawful(1), 49);
    }

    private void permitted() {
        says("PERMITTED: the greatest number that is, times itself, no more than LAWFUL");
        SpeedWarden w = track(5);
        int[][] small = {{1, 1}, {2, 1}, {3, 1}, {4, 2}, {5, 2}, {8, 2}, {9, 3}, {10, 3}, {15, 3}, {16, 4}, {17, 4},
            {24, 4}, {25, 5}, {26, 5}, {35, 5}, {36, 6}, {37, 6}, {48, 6}, {49, 7}, {50, 7}, {59, 7}, {60, 7}};
        for (int[] d : small) {
            w.sets(0, d[0]);
            due("LAWFUL", w.lawful(4), d[0]);
            due("of LAWFUL " + d[0], w.permitted(4), d[1]);
        }
        w = track(200);
        w.lays(0, 0, 199, 60);
        w.sets(0, 59);
        due("LAWFUL 3599", w.lawful(139), 3599);
        due("of 3599", w.permitted(139), 59);
        due("LAWFUL 3600", w.lawful(138), 3600);
        due("of 3600", w.permitted(138), 60);
        w.lays(0, 0, 199, 0);
        due("of 0", w.permitted(138), 0);
        for (int v = 1; v <= 60; v++) {
            w.lays(0, 9, 9, v);
            due("of " + v + " times itself, by the CEILING", w.permitted(9), Math.min(v, 7));
        }
    }

    private void bound() {
        says("BOUND by the least y");
        SpeedWarden w = track(5);
        w.lays(0, 2, 2, 5);
        w.lays(0, 3, 3, 4);
        w.sets(0, 9);
        boundIs(w, 2, 2, 2, 3, 5);
        w.sets(0, 8);
        boundIs(w, 3, 3, 3, 3, 5);
        w.sets(0, 10);
        boundIs(w, 2, 2, 2, 3, 5);

        says("BOUND by L, if that holds for no CELL");
        w = track(5);
        boundIs(w, 5, 5, 5, 5, 5);
        w.lays(0, 4, 4, 4);
        w.sets(0, 15);
        boundIs(w, 5, 5, 5, 5, 5);
        w.sets(0, 16);
        boundIs(w, 4, 4, 4, 4, 4);
        w.sets(0, 17);
        boundIs(w, 4, 4, 4, 4, 4);
        w = track(200);
        due("199", w.bound(199), 200);
        due("1590, by the END", w.bound(41), 200);
        due("1600, by both", w.bound(40), 40);
        due("1600, by the CEILING", w.bound(39), 39);
        due("bound(0)", w.bound(0), 0);

        says("BOUND: x or more, no CELL ahead of it");
        w = track(8);
        w.lays(0, 3, 3, 2);
        boundIs(w, 3, 3, 3, 3, 8, 8, 8, 8);
        w.lays(0, 3, 3, 0);
        boundIs(w, 3, 3, 3, 3, 8, 8, 8, 8);

        says("BOUND by y's CEILING IN FORCE");
        w.lays(0, 3, 3, 2);
        w.sets(2, 3);
        boundIs(w, 3, 3, 3, 3, 4, 5, 8, 8);

        says("BOUND by all DECELS from x to y - 1, each CELL's own");
        w = track(8);
        w.lays(0, 6, 6, 1);
        w.lays(1, 2, 2, 20);
        w.lays(1, 3, 3, -20);
        w.lays(1, 6, 6, 7);
        int[] lawful = {72, 62, 52, 22, 21, 11, 1, 10};
        for (int x = 0; x < 8; x++) {
            due("lawful(" + x + ")", w.lawful(x), lawful[x]);
        }
        boundIs(w, 6, 6, 6, 6, 6, 6, 6, 8);
    }

    private void boundIs(SpeedWarden w, int... want) {
        for (int x = 0; x < want.length; x++) {
            due("bound(" + x + ")", w.bound(x), want[x]);
        }
    }

    // ---- promises 2 to 6

    private void lengthens() {
        says("2 CELLS that come have CEILING 40, GRADE 0, no BEACON");
        SpeedWarden w = laidAll(track(5), 5);
        w.lengthens(6);
        cellIs(w, 4, 7, 23, 1);
        cellIs(w, 5, 40, 20, 0);
        w.lengthens(200);
        cellIs(w, 4, 7, 23, 1);
        cellIs(w, 6, 40, 20, 0);
        cellIs(w, 199, 40, 20, 0);
        w = new SpeedWarden();
        for (int x = 100; x < 105; x++) {
            w.lengthens(x + 1);
            cellIs(w, x - 1, 40, 20, 0);
            cellIs(w, x, 40, 20, 0);
        }

        says("2 CELLS that go are gone");
        w = laidAll(new SpeedWarden(), 100);
        w.lengthens(99);
        due("cell(99, 0)", w.cell(99, 0), BAD);
        w.lengthens(100);
        cellIs(w, 98, 7, 23, 1);
        cellIs(w, 99, 40, 20, 0);
        w.lengthens(5);
        w.lengthens(100);
        cellIs(w, 4, 7, 23, 1);
        cellIs(w, 5, 40, 20, 0);
        cellIs(w, 98, 40, 20, 0);

        says("2 lengthens answers what L was");
        w = new SpeedWarden();
        int[] sizes = {5, 5, 200, 200, 6, 100};
        int was = 100;
        for (int size : sizes) {
            due("lengthens(" + size + ")", w.lengthens(size), was);
            was = size;
        }

        says("2 settings stay");
        w = new SpeedWarden();
        for (int what = 0; what < 7; what++) {
            w.sets(what, 9 - what);
        }
        w.lengthens(5);
        toldIs(w, 0, 0, 0, 5, 9, 8, 7, 6, 5, 4, 3, 0, 6);
        trainIsAnew();
    }

    private static SpeedWarden laidAll(SpeedWarden w, int size) {
        w.lays(0, 0, size - 1, 7);
        w.lays(1, 0, size - 1, 3);
        for (int x = 0; x < size; x++) {
            w.beacon(x, 1);
        }
        return w;
    }

    private void trainIsAnew() {
        says("2 THE TRAIN is anew as at first, in each MODE, also if n is L");
        int[][] placed = {{3, 0}, {12, 1}, {14, 2}, {16, 3}};
        int[] sizes = {5, 99, 100, 101};
        for (int[] p : placed) {
            for (int size : sizes) {
                SpeedWarden w = new SpeedWarden();
                w.lays(0, 0, 49, 10);
                w.places(20, p[0]);
                due("MODE", w.train(3), p[1]);
                w.steps(0);
                w.lengthens(size);
                for (int what = 0; what <= 7; what++) {
                    due("train(" + what + ")", w.train(what), 0);
                }
            }
        }

        says("2 the counts of THE TRAIN stay");
        SpeedWarden w = track(5);
        w.places(4, 99);
        w.steps(0);
        w.places(1, 2);
        w.steps(1);
        w.steps(1);
        w.lengthens(5);
        trainIs(w, 0, 0, 0, 0, 0, 0, 0, 0, 7, 1, 1, 2, 2);
        w.lengthens(9);
        trainIs(w, 0, 0, 0, 0, 0, 0, 0, 0, 9, 1, 1, 2, 2);

        says("2 lengthens that is refused leaves THE TRAIN");
        w = new SpeedWarden();
        w.places(20, 3);
        w.steps(0);
        w.lengthens(4);
        w.lengthens(201);
        trainIs(w, 21, 9, 3, 0, 20980, 21020, 20, 22);
    }

    private void lays() {
        says("3 of CELLS a to b");
        SpeedWarden w = new SpeedWarden();
        due("lays(0, 10, 12, 7)", w.lays(0, 10, 12, 7), 3);
        due("lays(1, 12, 14, -7)", w.lays(1, 12, 14, -7), 3);
        int[][] want = {{40, 20}, {7, 20}, {7, 20}, {7, 13}, {40, 13}, {40, 13}, {40, 20}};
        for (int k = 0; k < want.length; k++) {
            cellIs(w, 9 + k, want[k][0], want[k][1], 0);
        }
        due("all", w.lays(0, 0, 99, 8), 100);
        due("cell(0, 0)", w.cell(0, 0), 8);
        due("cell(99, 0)", w.cell(99, 0), 8);

        says("3 how many of them had another one");
        w = new SpeedWarden();
        due("none", w.lays(0, 0, 99, 40), 0);
        due("none", w.lays(1, 0, 99, 0), 0);
        due("ten", w.lays(0, 10, 19, 60), 10);
        due("five", w.lays(0, 15, 24, 60), 5);
        due("none", w.lays(0, 10, 24, 60), 0);
        due("all but fifteen", w.lays(0, 0, 99, 60), 85);
        due("one", w.lays(1, 99, 99, -1), 1);
        due("all but one", w.lays(1, 0, 99, -1), 99);

        says("3 BAD: a is above b");
        w = new SpeedWarden();
        due("a below b", w.lays(0, 3, 4, 5), 2);
        due("a is b", w.lays(0, 3, 3, 6), 1);
        due("a above b", w.lays(0, 4, 3, 7), BAD);
        due("a far above b", w.lays(1, 99, 0, 7), BAD);
        cellIs(w, 3, 6, 20, 0);
        cellIs(w, 4, 5, 20, 0);

        says("3 what 0, 1");
        int[] strange = {LOWEST, -1, 2, 3, HIGHEST};
        for (int what : strange) {
            due("lays of " + what, w.lays(what, 3, 3, 9), BAD);
        }
        cellIs(w, 3, 6, 20, 0);
        due("a CEILING is no GRADE", w.lays(0, 3, 3, -1), BAD);
        due("a GRADE is no CEILING", w.lays(1, 3, 3, 21), BAD);
        due("lays(0, 3, 3, 21)", w.lays(0, 3, 3, 21), 1);
        due("lays(1, 3, 3, -1)", w.lays(1, 3, 3, -1), 1);
        cellIs(w, 3, 21, 19, 0);
    }

    private void beacon() {
        says("4 on 1, 0: what it had");
        SpeedWarden w = new SpeedWarden();
        int[] ends = {0, 99};
        for (int x : ends) {
            due("0 to 0", w.beacon(x, 0), 0);
            due("0 to 1", w.beacon(x, 1), 0);
            due("cell", w.cell(x, 2), 1);
            due("1 to 1", w.beacon(x, 1), 1);
            due("1 to 0", w.beacon(x, 0), 1);
            due("cell", w.cell(x, 2), 0);
        }

        says("4 BAD: on below 0, above 1");
        int[] strange = {LOWEST, -1, 2, HIGHEST};
        for (int on : strange) {
            due("beacon(7, " + on + ")", w.beacon(7, on), BAD);
            due("cell(7, 2)", w.cell(7, 2), 0);
        }
        w.beacon(7, 1);
        for (int on : strange) {
            due("beacon(7, " + on + ")", w.beacon(7, on), BAD);
            due("cell(7, 2)", w.cell(7, 2), 1);
        }
    }

    private void sets() {
        says("5 what 0 .. 6");
        SpeedWarden w = new SpeedWarden();
        int[] strange = {LOWEST, -1, 7, 8, HIGHEST};
        for (int what : strange) {
            due("sets(" + what + ", 1)", w.sets(what, 1), BAD);
            due("sets(" + what + ", 9)", w.sets(what, 9), BAD);
        }
        toldIs(w, 10, 0, 0, 100, 10, 6, 1, 20, 1, 3, 5, 0, 0);
        due("sets(0, 11)", w.sets(0, 11), 10);
        due("sets(6, 4)", w.sets(6, 4), 5);

        says("5 each what is its own setting");
        int[] first = {10, 6, 1, 20, 1, 3, 5};
        for (int what = 0; what < 7; what++) {
            w = new SpeedWarden();
            due("sets(" + what + ", 9)", w.sets(what, 9), first[what]);
            for (int other = 0; other < 7; other++) {
                due("told(" + (4 + other) + ")", w.told(4 + other), other == what ? 9 : first[other]);
            }
        }
    }

    private void cell() {
        says("6 what 0 .. 4");
        SpeedWarden w = new SpeedWarden();
        w.lays(0, 3, 3, 30);
        w.lays(0, 4, 4, 50);
        w.lays(1, 4, 4, 7);
        w.beacon(4, 1);
        w.sets(2, 2);
        int[] want = {50, 27, 1, 17, 30};
        for (int what = 0; what < 5; what++) {
            due("cell(4, " + what + ")", w.cell(4, what), want[what]);
        }
        int[] strange = {LOWEST, -1, 5, 6, HIGHEST};
        for (int what : strange) {
            due("cell(4, " + what + ")", w.cell(4, what), BAD);
        }
        due("told(0)", w.told(0), 5);

        says("6 GRADE and 20");
        int[] grades = {-20, -19, -1, 0, 1, 20};
        for (int grade : grades) {
            w.lays(1, 4, 4, grade);
            due("GRADE " + grade, w.cell(4, 1), grade + 20);
        }
    }

    // ---- promises 10 to 12

    private void stands() {
        says("10 SPEED v 0 .. 99");
        SpeedWarden w = track(200);
        w.sets(0, 60);
        due("stands(0, 0)", w.stands(0, 0), 0);
        due("stands(0, 99)", w.stands(0, 99), 163);
        int[] strange = {LOWEST, -99, -1, 100, 46341, HIGHEST};
        for (int v : strange) {
            due("stands(0, " + v + ")", w.stands(0, v), BAD);
        }

        says("10 until SQUARE would be 0 or less");
        w = track(5);
        int[][] byBrake = {{10, 3, 0}, {9, 3, 0}, {8, 3, 1}, {8, 4, 1}, {7, 4, 2}, {1, 1, 0}, {1, 2, 3}, {60, 7, 0},
            {49, 7, 0}, {48, 7, 1}, {1, 0, 0}};
        for (int[] d : byBrake) {
            w.sets(0, d[0]);
            due("BRAKE " + d[0] + ", SPEED " + d[1], w.stands(0, d[1]), d[2]);
        }

        says("10 NONE: it would not be so ahead of CELL L");
        w.sets(0, 5);
        due("in the last CELL", w.stands(0, 5), 4);
        due("a CELL too late", w.stands(1, 5), NONE);
        due("in the last CELL", w.stands(4, 2), 0);
        due("too fast there", w.stands(4, 3), NONE);
        due("too fast by far", w.stands(0, 99), NONE);
        w = track(200);
        w.sets(0, 60);
        due("stands(36, 99)", w.stands(36, 99), 163);
        due("stands(37, 99)", w.stands(37, 99), NONE);

        says("10 NONE is not refused");
        toldIs(w, 0, 0, 0);

        says("10 DECEL by DECEL, each CELL's own");
        w = track(5);
        w.lays(1, 1, 1, -20);
        w.lays(1, 2, 2, 20);
        due("stands(0, 3)", w.stands(0, 3), 0);
        due("16 - 10 - 1 - 30", w.stands(0, 4), 2);
        due("1 - 1", w.stands(1, 1), 0);
        due("4 - 1 - 30", w.stands(1, 2), 1);
        due("25 - 30", w.stands(2, 5), 0);
        due("36 - 30 - 10", w.stands(2, 6), 1);
        due("49 - 30 - 10 - 10", w.stands(2, 7), 2);
        due("64 is above 50", w.stands(2, 8), NONE);
    }

    private void speed() {
        says("11 n 0 .. 200");
        SpeedWarden w = new SpeedWarden();
        due("speed(0, 0)", w.speed(0, 0), 3);
        due("speed(0, 200)", w.speed(0, 200), 31);
        int[] strange = {LOWEST, -1, 201, HIGHEST};
        for (int n : strange) {
            due("speed(0, " + n + ")", w.speed(0, n), BAD);
        }

        says("11 stands() is n or less");
        int[] byCells = {3, 4, 5, 6, 7, 7, 8, 8, 9, 10, 10};
        for (int n = 0; n < byCells.length; n++) {
            due("speed(0, " + n + ")", w.speed(0, n), byCells[n]);
        }
        speedIsGreatest(w, 0, 9);
        speedIsGreatest(w, 90, 9);
        w.lays(1, 0, 99, -7);
        w.lays(1, 40, 60, 13);
        speedIsGreatest(w, 35, 9);

        says("11 but not NONE");
        w = track(5);
        due("speed(0, 3)", w.speed(0, 3), 6);
        due("speed(0, 4)", w.speed(0, 4), 7);
        due("speed(0, 5)", w.speed(0, 5), 7);
        due("speed(4, 0)", w.speed(4, 0), 3);
        due("speed(4, 1)", w.speed(4, 1), 3);
        due("speed(4, 200)", w.speed(4, 200), 3);

        says("11 SPEED 0 .. 99");
        w = track(200);
        w.sets(0, 60);
        w.lays(1, 0, 199, 20);
        due("speed(0, 121)", w.speed(0, 121), 98);
        due("speed(0, 122)", w.speed(0, 122), 99);
        due("speed(0, 127)", w.speed(0, 127), 99);
        due("speed(0, 200)", w.speed(0, 200), 99);
        due("speed(77, 200)", w.speed(77, 200), 99);
        due("speed(78, 200)", w.speed(78, 200), 98);

        says("11 the least that can be: DECEL is 1 or more, so that 1 stands in x");
        w = track(5);
        int[][] byBrake = {{1, 1}, {3, 1}, {4, 2}};
        for (int[] d : byBrake) {
            w.sets(0, d[0]);
            due("BRAKE " + d[0], w.speed(4, 0), d[1]);
        }
    }

    private void speedIsGreatest(SpeedWarden w, int x, int most) {
        for (int n = 0; n <= most; n++) {
            int v = w.speed(x, n);
            int gone = w.stands(x, v);
            due("stands(" + x + ", " + v + ") within " + n, gone >= 0 && gone <= n ? 1 : 0, 1);
            int further = w.stands(x, v + 1);
            due("not by SPEED " + (v + 1), further == NONE || further > n ? 1 : 0, 1);
        }
    }

    private void many() {
        says("12 v 0 .. 99");
        SpeedWarden w = track(5);
        int[] strange = {LOWEST, -1, 100, HIGHEST};
        for (int v : strange) {
            due("many(" + v + ")", w.many(v), BAD);
        }
        due("many(0)", w.many(0), 0);
        due("many(99)", w.many(99), 0);

        says("12 how many CELLS have PERMITTED v");
        int[] want = {0, 0, 0, 1, 1, 1, 1, 1, 0};
        for (int v = 0; v < want.length; v++) {
            due("many(" + v + ")", w.many(v), want[v]);
        }
        w.lays(0, 0, 4, 0);
        due("all CELLS, PERMITTED 0", w.many(0), 5);
        due("many(1)", w.many(1), 0);
        w = track(200);
        w.lays(0, 0, 199, 60);
        w.sets(0, 60);
        due("many(59)", w.many(59), 1);
        due("many(60)", w.many(60), 141);
        due("many(61)", w.many(61), 0);
        int all = 0;
        for (int v = 0; v <= 99; v++) {
            all += w.many(v);
        }
        due("all together", all, 200);
        w.lengthens(5);
        due("CELLS that are gone do not count", w.many(60), 0);
    }
}
