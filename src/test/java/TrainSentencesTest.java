/** The train (promises 13 to 17): each sentence that names a boundary, on both its sides. */
public final class TrainSentencesTest extends Sentences {
    public static void main(String[] args) {
        new TrainSentencesTest().all();
    }

    private void all() {
        speed();
        gains();
        standsStill();
        runsOver();
        goesOn();
        odometer();
        beacons();
        span();
        seen();
        limitsOfModes();
        modesByRoots();
        modesThatStay();
        supervisedInEachCase();
        driver();
        driverLooksAt();
        places();
        steps();
        drives();
        frees();
        train();
        ends();
    }

    /** Two hundred CELLS of CEILING 10: PERMITTED is 10 up to CELL 100 even by BRAKE 1. */
    private static SpeedWarden slow() {
        SpeedWarden w = track(200);
        w.lays(0, 0, 199, 10);
        return w;
    }

    private static void steps(SpeedWarden w, int handle, int times) {
        for (int k = 0; k < times; k++) {
            w.steps(handle);
        }
    }

    // ---- a STEP

    private void speed() {
        says("SPEED: the greatest number that is, times itself, no more than SQUARE");
        int[][] byPull = {{0, 0}, {1, 1}, {3, 1}, {4, 2}, {8, 2}, {9, 3}, {15, 3}, {16, 4}, {24, 4}, {25, 5}, {30, 5}};
        for (int[] d : byPull) {
            SpeedWarden w = new SpeedWarden();
            w.sets(1, d[0]);
            w.steps(1);
            due("SQUARE", w.train(1), d[0]);
            due("SPEED of " + d[0], w.train(2), d[1]);
        }
        SpeedWarden w = new SpeedWarden();
        w.places(0, 99);
        due("SPEED of 9801", w.train(2), 99);
        w.lays(1, 0, 0, -9);
        w.steps(0);
        due("SQUARE of a stopped train", w.train(1), 9800);
        due("SPEED of 9800", w.train(2), 98);
    }

    private void gains() {
        says("GAIN in MODE 0 by -1: -(BRAKE / 2) - GRADE, cut first");
        int[][] braked = {{1, 0, 0}, {2, 0, -1}, {3, 0, -1}, {4, 0, -2}, {59, 0, -29}, {60, 0, -30}, {3, -3, 2},
            {3, 3, -4}, {10, -20, 15}, {10, 20, -25}};
        for (int[] d : braked) {
            gain(8, 0, -1, d);
        }

        says("GAIN in MODE 0 by 0: -GRADE");
        int[][] coasted = {{10, -20, 20}, {10, -1, 1}, {10, 0, 0}, {10, 1, -1}, {60, 20, -20}};
        for (int[] d : coasted) {
            gain(8, 0, 0, d);
        }

        says("GAIN in MODE 0 by 1: PULL - GRADE");
        int[][] pulled = {{10, 0, 6}, {10, -20, 26}, {10, 5, 1}, {10, 6, 0}, {10, 7, -1}, {10, 20, -14}};
        for (int[] d : pulled) {
            gain(8, 0, 1, d);
        }
        gainByPull();

        says("GAIN in MODE 1 is as in MODE 0");
        gain(12, 1, -1, new int[] {7, -5, 2});
        gain(12, 1, 0, new int[] {7, -5, 5});
        gain(12, 1, 1, new int[] {7, -5, 11});

        says("GAIN in MODE 2: -(3 * BRAKE / 4) - GRADE, cut first, whatever the HANDLE");
        int[][] served = {{1, 0, 0}, {2, 0, -1}, {3, 0, -2}, {4, 0, -3}, {5, 0, -3}, {7, 0, -5}, {8, 0, -6},
            {60, 0, -45}, {5, -5, 2}, {5, 5, -8}, {1, -20, 20}};
        for (int[] d : served) {
            for (int handle = -1; handle <= 1; handle++) {
                gain(14, 2, handle, d);
            }
        }

        says("GAIN in MODE 3: -DECEL, 1 at least, whatever the HANDLE");
        int[][] stopped = {{10, 0, -10}, {10, 20, -30}, {10, -8, -2}, {10, -9, -1}, {10, -10, -1}, {10, -20, -1},
            {60, 20, -80}};
        for (int[] d : stopped) {
            for (int handle = -1; handle <= 1; handle++) {
                gain(16, 3, handle, d);
            }
        }
        gainOfTheCellLeft();
    }

    /** d: BRAKE, the GRADE of the CELL left, the GAIN that is due. */
    private void gain(int v, int mode, int handle, int[] d) {
        SpeedWarden w = slow();
        w.sets(0, d[0]);
        w.lays(1, 20, 20, d[1]);
        due("MODE ahead of the STEP", w.places(20, v), mode);
        due("steps(" + handle + ")", w.steps(handle), 1);
        due("GAIN by BRAKE " + d[0] + ", GRADE " + d[1] + ", HANDLE " + handle, w.train(1) - v * v, d[2]);
    }

    private void gainByPull() {
        int[] pulls = {0, 1, 30};
        for (int pull : pulls) {
            SpeedWarden w = slow();
            w.sets(1, pull);
            w.places(20, 8);
            w.steps(1);
            due("GAIN by PULL " + pull, w.train(1) - 64, pull);
        }
    }

    private void gainOfTheCellLeft() {
        says("GAIN by the GRADE of CELL x, not of the one that is reached");
        int[][] want = {{8, -1, -8}, {8, 0, -3}, {8, 1, 3}, {14, 0, -10}, {16, 0, -13}};
        for (int[] d : want) {
            SpeedWarden w = slow();
            w.lays(1, 19, 19, 17);
            w.lays(1, 20, 20, 3);
            w.lays(1, 21, 21, -17);
            w.places(20, d[0]);
            w.steps(d[1]);
            due("GAIN from SPEED " + d[0] + " by HANDLE " + d[1], w.train(1) - d[0] * d[0], d[2]);
        }
    }

    private void standsStill() {
        says("N is 0 or less: SQUARE becomes 0, FRONT and ODOMETER stay");
        int[][] byBrake = {{12, 0}, {10, 0}, {8, 0}, {6, 1}, {4, 2}};
        for (int[] d : byBrake) {
            SpeedWarden w = new SpeedWarden();
            w.sets(0, d[0]);
            w.places(30, 2);
            w.steps(0);
            boolean stays = d[1] == 0;
            due("N by BRAKE " + d[0], w.steps(-1), stays ? 0 : 1);
            int at = stays ? 31 : 32, error = stays ? 20 : 40;
            trainIs(w, at, d[1], d[1] == 0 ? 0 : 1, 0, at * 1000 - error, at * 1000 + error);
            due("OVERRUNS", w.train(10), 0);
            due("went on", w.train(12), stays ? 1 : 2);
        }

        says("N is 0 or less from SQUARE 0");
        SpeedWarden w = new SpeedWarden();
        w.sets(1, 0);
        due("N is 0 by coasting", w.steps(0), 0);
        due("N is 0 by PULL 0", w.steps(1), 0);
        due("N is -5 by braking", w.steps(-1), 0);
        w.lays(1, 0, 0, 1);
        due("N is -1 uphill", w.steps(0), 0);
        w.sets(1, 1);
        due("N is 0 by PULL 1 uphill", w.steps(1), 0);
        trainIs(w, 0, 0, 0, 0, 0, 0);
        w.sets(1, 2);
        due("N is 1 by PULL 2 uphill", w.steps(1), 1);
        trainIs(w, 1, 1, 1, 0, 980, 1020);
        w = new SpeedWarden();
        w.lays(1, 0, 0, -1);
        due("N is 1 downhill", w.steps(0), 1);

        says("N is 0 or less in MODE 2 and 3");
        w = new SpeedWarden();
        w.lays(0, 0, 99, 0);
        w.sets(0, 21);
        due("MODE 2", w.places(20, 4), 2);
        due("16 - 15", w.steps(1), 1);
        w.sets(0, 22);
        w.places(20, 4);
        due("16 - 16", w.steps(1), 0);
        trainIs(w, 20, 0, 0, 0, 20000, 20000);
        w.sets(0, 35);
        due("MODE 3", w.places(20, 6), 3);
        due("36 - 35", w.steps(1), 1);
        w.sets(0, 36);
        w.places(20, 6);
        due("36 - 36", w.steps(1), 0);
        trainIs(w, 20, 0, 0, 3, 20000, 20000);
    }

    private void runsOver() {
        says("from CELL L - 1: SQUARE becomes 0, FRONT and ODOMETER stay, OVERRUNS are one more");
        int[] sizes = {5, 100, 200};
        for (int size : sizes) {
            SpeedWarden w = track(size);
            int end = size - 1;
            w.places(end - 1, 1);
            due("from CELL L - 2", w.steps(0), 1);
            trainIs(w, end, 1, 1, 0, end * 1000 - 20, end * 1000 + 20);
            due("OVERRUNS", w.train(10), 0);
            due("from CELL L - 1", w.steps(0), 0);
            trainIs(w, end, 0, 0, 0, end * 1000 - 20, end * 1000 + 20);
            due("OVERRUNS", w.train(10), 1);
            due("went on", w.train(12), 1);
            due("from SQUARE 0", w.steps(1), 0);
            due("OVERRUNS", w.train(10), 2);
        }

        says("from CELL L - 1 with N of 0 or less: OVERRUNS stay");
        int[][] byBrake = {{10, 0}, {8, 0}, {6, 1}};
        for (int[] d : byBrake) {
            SpeedWarden w = track(5);
            w.sets(0, d[0]);
            w.places(4, 2);
            due("steps(-1)", w.steps(-1), 0);
            trainIs(w, 4, 0, 0, 0, 4000, 4000);
            due("OVERRUNS by BRAKE " + d[0], w.train(10), d[1]);
        }

        says("from CELL L - 1 in MODE 2 and 3");
        SpeedWarden w = track(5);
        due("MODE 2", w.places(4, 7), 2);
        due("steps(0)", w.steps(0), 0);
        trainIs(w, 4, 0, 0, 0, 4000, 4000);
        due("OVERRUNS", w.train(10), 1);
        due("MODE 3", w.places(4, 9), 3);
        due("steps(0)", w.steps(0), 0);
        trainIs(w, 4, 0, 0, 3, 4000, 4000);
        due("OVERRUNS", w.train(10), 2);

        says("L - 1 is the last CELL of L as it is now");
        w = track(5);
        w.lengthens(6);
        w.places(4, 1);
        due("from CELL 4 of 6", w.steps(0), 1);
        w.lengthens(5);
        w.places(4, 1);
        due("from CELL 4 of 5", w.steps(0), 0);
        due("OVERRUNS", w.train(10), 1);
    }

    private void goesOn() {
        says("else SQUARE becomes N, FRONT x + 1");
        SpeedWarden w = new SpeedWarden();
        int[] handles = {1, 1, 0, -1, 1};
        int[] squares = {6, 12, 12, 7, 13};
        for (int k = 0; k < handles.length; k++) {
            due("steps(" + handles[k] + ")", w.steps(handles[k]), 1);
            due("FRONT", w.train(0), k + 1);
            due("SQUARE", w.train(1), squares[k]);
            due("went on", w.train(12), k + 1);
        }
    }

    // ---- the ODOMETER

    private void odometer() {
        says("LOW 1000 - ERROR more, HIGH 1000 + ERROR more");
        int[] errors = {0, 1, 20, 99, 100};
        for (int error : errors) {
            SpeedWarden w = new SpeedWarden();
            w.sets(3, error);
            w.places(10, 3);
            for (int k = 1; k <= 3; k++) {
                w.steps(0);
                due("LOW by ERROR " + error, w.train(4), 10000 + k * (1000 - error));
                due("HIGH by ERROR " + error, w.train(5), 10000 + k * (1000 + error));
            }
        }

        says("ERROR is the one of the STEP");
        SpeedWarden w = new SpeedWarden();
        w.places(10, 3);
        w.steps(0);
        w.sets(3, 100);
        trainIs(w, 11, 9, 3, 0, 10980, 11020);
        w.steps(0);
        trainIs(w, 12, 9, 3, 0, 11880, 12120);
    }

    private void beacons() {
        says("if that CELL has a BEACON, both become 1000 times FRONT");
        int[] at = {30, 31, 32, 33};
        for (int beacon : at) {
            SpeedWarden w = new SpeedWarden();
            w.places(30, 3);
            w.steps(0);
            w.beacon(beacon, 1);
            w.steps(0);
            boolean sure = beacon == 32;
            trainIs(w, 32, 9, 3, 0, sure ? 32000 : 31960, sure ? 32000 : 32040);
        }

        says("a BEACON that is taken away again does nothing");
        SpeedWarden w = new SpeedWarden();
        w.beacon(31, 1);
        w.beacon(31, 0);
        w.places(30, 3);
        w.steps(0);
        trainIs(w, 31, 9, 3, 0, 30980, 31020);

        says("a BEACON is heard when its CELL is reached, not when FRONT stays");
        w.beacon(31, 1);
        trainIs(w, 31, 9, 3, 0, 30980, 31020);
        w.sets(0, 18);
        due("N is 0", w.steps(-1), 0);
        trainIs(w, 31, 0, 0, 0, 30980, 31020);

        says("a BEACON in the last CELL");
        w = track(5);
        w.beacon(4, 1);
        w.places(2, 1);
        w.steps(0);
        trainIs(w, 3, 1, 1, 0, 2980, 3020);
        w.steps(0);
        trainIs(w, 4, 1, 1, 0, 4000, 4000);
        w = track(5);
        w.places(3, 1);
        w.steps(0);
        w.beacon(4, 1);
        w.steps(0);
        due("OVERRUNS", w.train(10), 1);
        trainIs(w, 4, 0, 0, 0, 3980, 4020);

        says("behind a BEACON the ODOMETER is unsure again");
        w = new SpeedWarden();
        w.beacon(32, 1);
        w.places(30, 3);
        steps(w, 0, 3);
        trainIs(w, 33, 9, 3, 0, 32980, 33020);
    }

    private void spanIs(SpeedWarden w, int first, int last) {
        due("first CELL of SPAN", w.train(6), first);
        due("last CELL of SPAN", w.train(7), last);
    }

    private void span() {
        says("SPAN from LOW / 1000, to (HIGH + 999) / 1000, cut");
        SpeedWarden w = new SpeedWarden();
        w.sets(3, 0);
        w.places(0, 3);
        spanIs(w, 0, 0);
        w.steps(0);
        trainIs(w, 1, 9, 3, 0, 1000, 1000);
        spanIs(w, 1, 1);
        w.sets(3, 1);
        w.places(0, 3);
        w.steps(0);
        trainIs(w, 1, 9, 3, 0, 999, 1001);
        spanIs(w, 0, 2);
        w.steps(0);
        spanIs(w, 1, 3);

        says("SPAN where LOW and HIGH are whole CELLS again");
        w = new SpeedWarden();
        w.sets(3, 100);
        w.places(0, 3);
        steps(w, 0, 9);
        trainIs(w, 9, 9, 3, 0, 8100, 9900);
        spanIs(w, 8, 10);
        w.steps(0);
        trainIs(w, 10, 9, 3, 0, 9000, 11000);
        spanIs(w, 9, 11);
        w.steps(0);
        trainIs(w, 11, 9, 3, 0, 9900, 12100);
        spanIs(w, 9, 13);

        says("SPAN: 0 at least");
        w = new SpeedWarden();
        spanIs(w, 0, 0);
        w.sets(3, 100);
        w.steps(1);
        spanIs(w, 0, 2);

        says("SPAN: L - 1 at most");
        w = track(5);
        w.sets(3, 1);
        w.places(0, 1);
        steps(w, 0, 3);
        trainIs(w, 3, 1, 1, 0, 2997, 3003);
        spanIs(w, 2, 4);
        w.steps(0);
        trainIs(w, 4, 1, 1, 0, 3996, 4004);
        spanIs(w, 3, 4);
        w.places(4, 1);
        spanIs(w, 4, 4);
        spanOfALongWay();
    }

    private void spanOfALongWay() {
        SpeedWarden w = track(200);
        w.sets(3, 100);
        w.sets(0, 60);
        w.places(0, 5);
        steps(w, 0, 181);
        trainIs(w, 181, 25, 5, 0, 162900, 199100);
        spanIs(w, 162, 199);
        steps(w, 0, 18);
        trainIs(w, 199, 25, 5, 0, 179100, 218900);
        spanIs(w, 179, 199);
    }

    /** FRONT 10, SQUARE 9, SPAN 9 to 11. */
    private static SpeedWarden unsure() {
        SpeedWarden w = new SpeedWarden();
        w.sets(3, 100);
        w.places(0, 3);
        steps(w, 0, 10);
        return w;
    }

    private void seen() {
        says("SEEN: the least PERMITTED of the CELLS of SPAN");
        int[][] want = {{7, 29}, {8, 29}, {9, 0}, {10, 0}, {11, 0}, {12, 3}, {13, 4}};
        for (int[] d : want) {
            SpeedWarden w = unsure();
            w.lays(0, d[0], d[0], 0);
            due("SEEN by a CEILING of 0 in CELL " + d[0], w.train(8), d[1]);
        }

        says("SEEN of a SPAN of one CELL");
        SpeedWarden w = new SpeedWarden();
        w.lays(0, 20, 20, 5);
        w.places(19, 0);
        due("35", w.train(8), 5);
        w.places(20, 0);
        due("25", w.train(8), 5);
        w.places(21, 0);
        due("790", w.train(8), 28);
        w.places(18, 0);
        due("45", w.train(8), 6);

        says("SEEN at the end");
        w = track(5);
        w.places(3, 1);
        w.steps(0);
        due("of CELLS 3 and 4", w.train(8), 3);
    }

    // ---- supervision

    private void modesBy(int what, int[][] want) {
        for (int[] d : want) {
            SpeedWarden w = slow();
            w.sets(what, d[0]);
            due("places(20, " + d[1] + ") by setting " + what + " of " + d[0], w.places(20, d[1]), d[2]);
            due("MODE", w.train(3), d[2]);
            due("ALARMS", w.train(9), d[2] == 3 ? 1 : 0);
        }
    }

    private void limitsOfModes() {
        says("r above p + WARN: MODE 1; else MODE 0");
        modesBy(4, new int[][] {{1, 0, 0}, {1, 10, 0}, {1, 11, 0}, {1, 12, 1}, {0, 10, 0}, {0, 11, 1}, {3, 13, 0},
            {3, 14, 2}, {2, 12, 0}, {2, 13, 1}});

        says("r above p + SERVE: MODE 2");
        modesBy(5, new int[][] {{3, 13, 1}, {3, 14, 2}, {0, 10, 0}, {0, 11, 2}, {4, 14, 1}, {4, 15, 2}, {9, 15, 1},
            {9, 16, 3}});

        says("r above p + STOP: MODE 3, ALARMS one more");
        modesBy(6, new int[][] {{5, 15, 2}, {5, 16, 3}, {0, 10, 0}, {0, 11, 3}, {9, 19, 2}, {9, 20, 3}, {9, 99, 3},
            {3, 13, 1}, {3, 14, 3}});

        says("STOP is asked first, then SERVE, then WARN");
        modesByAll(9, 9, 0, 10, 0);
        modesByAll(9, 9, 0, 11, 3);
        modesByAll(9, 0, 9, 10, 0);
        modesByAll(9, 0, 9, 11, 2);
        modesByAll(0, 0, 0, 10, 0);
        modesByAll(0, 0, 0, 11, 3);
        modesByAll(0, 0, 9, 11, 2);
        modesByAll(0, 9, 9, 11, 1);
        modesByAll(0, 9, 9, 19, 1);
        modesByAll(0, 9, 9, 20, 3);
        modesByAll(9, 9, 9, 19, 0);
        modesByAll(9, 9, 9, 20, 3);
    }

    private void modesByAll(int warn, int serve, int stop, int v, int mode) {
        SpeedWarden w = slow();
        w.sets(4, warn);
        w.sets(5, serve);
        w.sets(6, stop);
        due("places(20, " + v + ") by " + warn + ", " + serve + ", " + stop, w.places(20, v), mode);
    }

    private void modesByRoots() {
        says("by SPEED r, a whole root: of 143 and 144");
        int[][] byPull = {{2, 143, 0}, {3, 144, 1}};
        for (int[] d : byPull) {
            SpeedWarden w = slow();
            w.sets(1, d[0]);
            w.lays(1, 20, 20, -20);
            w.places(20, 11);
            w.steps(1);
            trainIs(w, 21, d[1], 11 + d[2], d[2]);
        }

        says("by SPEED r, a whole root: of 195 and 196, from MODE 1");
        int[][] byPullFrom1 = {{6, 195, 1}, {7, 196, 2}};
        for (int[] d : byPullFrom1) {
            SpeedWarden w = slow();
            w.sets(1, d[0]);
            w.lays(1, 20, 20, -20);
            due("MODE", w.places(20, 13), 1);
            w.steps(1);
            trainIs(w, 21, d[1], d[2] == 1 ? 13 : 14, d[2]);
        }

        says("by SPEED r, a whole root: of 255 and 256, from MODE 2");
        int[][] byBrake = {{7, 255, 2}, {6, 256, 3}};
        for (int[] d : byBrake) {
            SpeedWarden w = slow();
            w.lays(1, 20, 21, -20);
            w.sets(0, 7);
            due("MODE", w.places(20, 15), 2);
            w.steps(0);
            trainIs(w, 21, 240, 15, 2);
            w.sets(0, d[0]);
            w.steps(0);
            trainIs(w, 22, d[1], d[2] == 2 ? 15 : 16, d[2]);
            due("ALARMS", w.train(9), d[2] - 2);
        }

        says("by SEEN p of the SPAN that is reached");
        SpeedWarden w = new SpeedWarden();
        w.sets(0, 60);
        w.sets(3, 0);
        w.lays(0, 21, 21, 5);
        due("SEEN 9, of 85", w.places(20, 7), 0);
        w.steps(0);
        trainIs(w, 21, 49, 7, 1, 21000, 21000, 21, 21, 5);
        w.steps(0);
        trainIs(w, 22, 49, 7, 0, 22000, 22000, 22, 22, 40);
    }

    private void modesThatStay() {
        says("MODE 2 stays, while r is above p + WARN");
        int[][] byGrade = {{20, 169, 2}, {18, 171, 2}, {-6, 195, 2}};
        for (int[] d : byGrade) {
            SpeedWarden w = slow();
            w.lays(1, 20, 20, d[0]);
            due("MODE", w.places(20, 14), 2);
            w.steps(0);
            trainIs(w, 21, d[1], 13, d[2]);
        }
        int[][] toWarn = {{18, 144, 12, 2}, {19, 143, 11, 0}};
        for (int[] d : toWarn) {
            SpeedWarden w = slow();
            w.lays(1, 20, 20, 20);
            w.lays(1, 21, 21, d[0]);
            w.places(20, 14);
            w.steps(0);
            w.steps(0);
            trainIs(w, 22, d[1], d[2], d[3]);
        }

        says("MODE 1 stays 1 while r is above p + WARN, and becomes 0 then");
        int[][] byHandle = {{144, 0, 1}, {139, -1, 0}};
        for (int[] d : byHandle) {
            SpeedWarden w = slow();
            due("MODE", w.places(20, 12), 1);
            w.steps(d[1]);
            due("SQUARE", w.train(1), d[0]);
            due("MODE", w.train(3), d[2]);
        }

        says("in MODE 3 nothing happens");
        SpeedWarden w = slow();
        due("MODE", w.places(20, 17), 3);
        w.steps(1);
        trainIs(w, 21, 279, 16, 3);
        due("ALARMS, though r is above", w.train(9), 1);
        steps(w, 1, 20);
        trainIs(w, 41, 79, 8, 3);
        due("ALARMS", w.train(9), 1);
        steps(w, 1, 8);
        trainIs(w, 48, 0, 0, 3);

        says("from MODE 1 to 3 at once");
        w = slow();
        due("MODE", w.places(20, 12), 1);
        w.lays(0, 20, 22, 5);
        w.steps(0);
        due("MODE", w.train(3), 3);
        due("ALARMS", w.train(9), 1);

        says("ALARMS one more each time");
        w = slow();
        for (int k = 1; k <= 3; k++) {
            w.places(20, 16);
            due("ALARMS", w.train(9), k);
            w.places(20, 15);
            due("ALARMS", w.train(9), k);
        }
    }

    private void supervisedInEachCase() {
        says("SUPERVISED also where N is 0 or less");
        int[][] placed = {{2, 1, 10}, {4, 2, 22}};
        for (int[] d : placed) {
            SpeedWarden w = new SpeedWarden();
            w.lays(0, 0, 99, 0);
            w.sets(0, d[2]);
            due("MODE", w.places(20, d[0]), d[1]);
            due("steps(-1)", w.steps(-1), 0);
            trainIs(w, 20, 0, 0, 0);
        }

        says("SUPERVISED also where the train runs over the end");
        int[][] atEnd = {{2, 1}, {4, 2}};
        for (int[] d : atEnd) {
            SpeedWarden w = track(5);
            w.lays(0, 0, 4, 0);
            due("MODE", w.places(4, d[0]), d[1]);
            due("steps(1)", w.steps(1), 0);
            trainIs(w, 4, 0, 0, 0);
            due("OVERRUNS", w.train(10), 1);
        }

        says("a change of THE TRACK or of settings does not supervise");
        SpeedWarden w = slow();
        w.places(20, 10);
        w.lays(0, 0, 199, 0);
        w.sets(4, 0);
        w.sets(6, 0);
        w.beacon(20, 1);
        does(w, "ceil 0 199 1;");
        due("MODE", w.train(3), 0);
        due("ALARMS", w.train(9), 0);
        w.steps(-1);
        due("MODE behind the next STEP", w.train(3), 3);
        due("ALARMS", w.train(9), 1);
    }

    // ---- the DRIVER

    /** d: the SPEED placed, PULL, the GRADE of the CELL, the HANDLE that is due. LAWFUL is 100 ahead of the train. */
    private void handle(int... d) {
        SpeedWarden w = slow();
        w.sets(1, d[1]);
        w.lays(1, 20, 20, d[2]);
        w.places(20, d[0]);
        due("HANDLE from SPEED " + d[0] + " by PULL " + d[1] + ", GRADE " + d[2], w.train(11), d[3] + 1);
    }

    private void driver() {
        says("DRIVER: the greatest HANDLE by which N would be no more than the least LAWFUL");
        handle(9, 18, 0, 1);
        handle(9, 19, 0, 1);
        handle(9, 20, 0, 0);
        handle(10, 0, 0, 1);
        handle(10, 1, 0, 0);
        handle(10, 0, -1, -1);
        handle(10, 1, 1, 1);
        handle(9, 1, -19, 0);
        handle(9, 1, -20, -1);
        handle(0, 30, 20, 1);
        handle(10, 20, 20, 1);
        handle(10, 21, 20, 0);

        says("DRIVER: -1, if none is so");
        handle(11, 0, 0, -1);
        handle(99, 0, 20, -1);
        handle(10, 0, -20, -1);

        says("DRIVER: -1, if it is the only one that is so");
        handle(11, 0, 20, -1);
        handle(10, 0, -5, -1);

        says("DRIVER: as if MODE were 0");
        SpeedWarden w = slow();
        w.sets(3, 0);
        due("MODE", w.places(20, 16), 3);
        steps(w, 0, 15);
        due("SQUARE", w.train(1), 106);
        due("MODE", w.train(3), 3);
        due("106 - 5 is above 100", w.train(11), 0);
        w.steps(0);
        due("96 and 6 is above 100", w.train(11), 1);
        w.steps(0);
        due("86 and 6", w.train(11), 2);
    }

    private void driverLooksAt() {
        says("DRIVER: LAWFUL from the first CELL of SPAN on");
        int[][] from = {{8, 2}, {9, 0}, {10, 0}, {11, 0}};
        for (int[] d : from) {
            SpeedWarden w = unsure();
            w.lays(0, d[0], d[0], 0);
            due("HANDLE by a CEILING of 0 in CELL " + d[0], w.train(11), d[1]);
        }

        says("DRIVER: LAWFUL to the CELL behind the last one of SPAN");
        int[][] to = {{11, 1}, {12, 1}, {13, 2}};
        for (int[] d : to) {
            SpeedWarden w = unsure();
            w.lays(0, d[0], d[0], 3);
            due("HANDLE by a CEILING of 3 in CELL " + d[0], w.train(11), d[1]);
        }

        says("DRIVER: L - 1 at most");
        int[][] atEnd = {{2, 2}, {3, 2}, {4, 2}};
        for (int[] d : atEnd) {
            SpeedWarden w = track(5);
            w.places(d[0], 2);
            due("4 and 6 is no more than 10, in CELL " + d[0], w.train(11), d[1]);
        }
        int[][] faster = {{2, 2}, {3, 1}, {4, 1}};
        for (int[] d : faster) {
            SpeedWarden w = track(5);
            w.sets(1, 7);
            w.places(d[0], 2);
            due("4 and 7 is more than 10, in CELL " + d[0], w.train(11), d[1]);
        }
        SpeedWarden w = new SpeedWarden();
        w.lays(0, 5, 99, 0);
        w.lengthens(5);
        w.places(4, 2);
        due("CELLS that are gone do not count", w.train(11), 2);
        w.lengthens(200);
        w.places(199, 2);
        due("in CELL 199 of 200", w.train(11), 2);
    }

    // ---- promises 13 to 17

    private void places() {
        says("13 v 0 .. 99");
        SpeedWarden w = new SpeedWarden();
        int[] strange = {LOWEST, -99, -1, 100, HIGHEST};
        for (int v : strange) {
            due("places(7, " + v + ")", w.places(7, v), BAD);
            trainIs(w, 0, 0, 0, 0, 0, 0);
        }
        due("places(7, 0)", w.places(7, 0), 0);
        trainIs(w, 7, 0, 0, 0, 7000, 7000, 7, 7);
        due("places(7, 99)", w.places(7, 99), 3);
        trainIs(w, 7, 9801, 99, 3, 7000, 7000, 7, 7);

        says("13 LOW and HIGH 1000 * x");
        w = track(200);
        int[] cells = {0, 1, 198, 199};
        for (int x : cells) {
            w.sets(3, 100);
            w.places(50, 3);
            w.steps(0);
            w.places(x, 2);
            trainIs(w, x, 4, 2, 0, 1000 * x, 1000 * x, x, x);
        }

        says("13 MODE 0 first, so that 2 and 3 do not stay");
        int[][] from = {{3, 0}, {12, 1}, {14, 2}, {16, 3}};
        for (int[] d : from) {
            w = slow();
            due("MODE ahead", w.places(20, d[0]), d[1]);
            due("places(20, 11)", w.places(20, 11), 0);
            w.places(20, d[0]);
            due("places(20, 13)", w.places(20, 13), 1);
            w.places(20, d[0]);
            due("places(20, 15)", w.places(20, 15), 2);
        }

        says("13 the counts stay");
        w = track(5);
        w.places(4, 9);
        w.steps(0);
        w.places(2, 2);
        w.steps(1);
        w.places(1, 0);
        trainIs(w, 1, 0, 0, 0, 1000, 1000, 1, 1, 6, 1, 1, 2, 1);
    }

    private void steps() {
        says("14 HANDLE -1, 0, 1");
        SpeedWarden w = new SpeedWarden();
        w.places(20, 5);
        int[] strange = {LOWEST, -2, 2, 3, HIGHEST};
        for (int handle : strange) {
            due("steps(" + handle + ")", w.steps(handle), BAD);
            trainIs(w, 20, 25, 5, 0, 20000, 20000);
        }
        due("steps(-1)", w.steps(-1), 1);
        due("SQUARE", w.train(1), 20);
        due("steps(0)", w.steps(0), 1);
        due("SQUARE", w.train(1), 20);
        due("steps(1)", w.steps(1), 1);
        due("SQUARE", w.train(1), 26);

        says("14 BAD in MODE 2 and 3, too");
        w = slow();
        w.places(20, 14);
        due("steps(2)", w.steps(2), BAD);
        w.places(20, 16);
        due("steps(-2)", w.steps(-2), BAD);
        trainIs(w, 20, 256, 16, 3, 20000, 20000);

        says("14 0: the STEP is done, too");
        w = new SpeedWarden();
        w.places(20, 2);
        due("steps(-1)", w.steps(-1), 0);
        trainIs(w, 20, 0, 0, 0, 20000, 20000);
        due("told(12)", w.told(12), 2);
    }

    private void drives() {
        says("15 n 1 .. 50");
        SpeedWarden w = track(200);
        int[] strange = {LOWEST, -1, 0, 51, HIGHEST};
        for (int n : strange) {
            due("drives(" + n + ")", w.drives(n), BAD);
            trainIs(w, 0, 0, 0, 0, 0, 0);
        }
        due("drives(1)", w.drives(1), 1);
        trainIs(w, 1, 6);
        due("drives(50)", w.drives(50), 50);
        due("FRONT", w.train(0), 51);
        due("went on", w.train(12), 51);

        says("15 until FRONT does not go on, which is done, too: by N of 0 or less");
        w = slow();
        w.places(20, 16);
        due("drives(25)", w.drives(25), 25);
        due("SQUARE", w.train(1), 6);
        due("drives(1)", w.drives(1), 0);
        trainIs(w, 45, 0, 0, 3);
        w.places(20, 16);
        due("drives(50)", w.drives(50), 25);
        trainIs(w, 45, 0, 0, 3);
        w.places(20, 16);
        due("drives(26)", w.drives(26), 25);
        trainIs(w, 45, 0, 0, 3);

        says("15 until FRONT does not go on, which is done, too: over the end");
        w = track(5);
        w.places(3, 2);
        due("drives(1)", w.drives(1), 1);
        trainIs(w, 4, 10);
        due("OVERRUNS", w.train(10), 0);
        due("drives(50)", w.drives(50), 0);
        trainIs(w, 4, 0);
        due("OVERRUNS, no more than one", w.train(10), 1);
        w.places(3, 2);
        due("drives(50)", w.drives(50), 1);
        due("OVERRUNS", w.train(10), 2);

        says("15 the DRIVER takes its HANDLE anew for each STEP");
        w = new SpeedWarden();
        w.sets(3, 0);
        w.lays(0, 0, 99, 4);
        due("drives(3)", w.drives(3), 3);
        due("6, 12, then coasting", w.train(1), 12);
        w.lays(1, 3, 3, -4);
        w.lays(1, 4, 4, -4);
        due("drives(1)", w.drives(1), 1);
        due("coasting to 16", w.train(1), 16);
        due("drives(1)", w.drives(1), 1);
        due("16 - 5 and 4", w.train(1), 15);
    }

    private void frees() {
        says("16 NO: MODE is not 3");
        int[][] placed = {{0, 0}, {11, 0}, {12, 1}, {14, 2}};
        for (int[] d : placed) {
            SpeedWarden w = slow();
            due("MODE", w.places(20, d[0]), d[1]);
            due("frees()", w.frees(), NO);
            due("MODE", w.train(3), d[1]);
            due("told(1)", w.told(1), 1);
        }

        says("16 NO: SQUARE is not 0");
        SpeedWarden w = slow();
        w.sets(0, 15);
        w.places(20, 16);
        due("SQUARE 256", w.frees(), NO);
        steps(w, 0, 17);
        due("SQUARE", w.train(1), 1);
        due("SQUARE 1", w.frees(), NO);
        due("MODE", w.train(3), 3);
        w.steps(0);
        due("SQUARE", w.train(1), 0);
        due("SQUARE 0", w.frees(), 0);
        due("MODE", w.train(3), 0);
        due("NO anew", w.frees(), NO);
        due("told(1)", w.told(1), 3);

        says("16 SUPERVISED anew: MODE 0, since SQUARE is 0, also where 0 is lawful");
        w = track(5);
        w.lays(0, 0, 4, 0);
        w.sets(4, 0);
        w.sets(5, 0);
        w.sets(6, 0);
        due("MODE", w.places(3, 1), 3);
        w.steps(0);
        due("frees()", w.frees(), 0);
        trainIs(w, 3, 0, 0, 0, 3000, 3000, 3, 3, 0, 1, 0, 1, 0);
    }

    private void train() {
        says("17 what 0 .. 12");
        SpeedWarden w = track(200);
        w.sets(3, 100);
        w.places(199, 99);
        w.steps(0);
        w.places(198, 99);
        w.places(10, 3);
        steps(w, 0, 3);
        trainIs(w, 13, 9, 3, 0, 12700, 13300, 12, 14, 40, 2, 1, 2, 3);
        int[] strange = {LOWEST, -1, 13, 14, HIGHEST};
        for (int what : strange) {
            due("train(" + what + ")", w.train(what), BAD);
        }
        due("told(0)", w.told(0), 5);

        says("17 the HANDLE and 1");
        int[][] want = {{9, 2}, {10, 1}, {11, 0}};
        for (int[] d : want) {
            w = slow();
            w.places(20, d[0]);
            due("from SPEED " + d[0], w.train(11), d[1]);
        }

        says("17 how many STEPS FRONT went on by, in all");
        w = track(5);
        due("none", w.train(12), 0);
        w.steps(0);
        due("one that did not", w.train(12), 0);
        w.steps(1);
        w.drives(2);
        due("by steps and drives", w.train(12), 3);
        w.places(4, 3);
        w.steps(1);
        due("not over the end", w.train(12), 3);
        w.lengthens(7);
        w.steps(1);
        due("lengthens leaves it", w.train(12), 4);
    }
}
