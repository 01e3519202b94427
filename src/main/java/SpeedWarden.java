/** Supervises one train on a track of cells. ../shared/DOC.md promises what each call answers. */
public final class SpeedWarden {
    public static final int NONE = -1, BAD = -2, NO = -3, FULL = -4;

    private static final int BRAKE = 0, PULL = 1, LENGTH = 2, ERROR = 3, WARN = 4, SERVE = 5, STOP = 6;
    private static final int FREE = 0, WARNED = 1, SERVED = 2, STOPPED = 3;
    private static final int CEILING = 0, GRADE = 1;
    private static final int TOP_SPEED = 99;
    private static final int MOST_DRIVEN = 50;
    private static final int STRANGE_WORD = 1, OTHER_FAULT = 2, REFUSED_ORDER = 3;
    private static final int TOLD_KINDS = 13, TRAIN_KINDS = 13;

    private final Line line;
    private final History history;
    private final Script script;
    private int bads, nos, fulls;
    private int cause;
    private int where;

    public SpeedWarden() {
        line = new Line();
        history = new History();
        script = new Script();
        where = NONE;
    }

    // ---- the track

    public int lengthens(int n) {
        history.notes(line.state);
        return redrawn(line.resizes(n));
    }

    public int lays(int what, int a, int b, int v) {
        history.notes(line.state);
        return redrawn(line.track.relaid(what, a, b, v));
    }

    public int beacon(int a, int on) {
        history.notes(line.state);
        return settled(line.track.marked(a, on));
    }

    public int sets(int what, int v) {
        history.notes(line.state);
        return redrawn(line.track.adjusted(what, v));
    }

    public int cell(int x, int what) {
        return counted(line.cellValue(x, what));
    }

    // ---- what is lawful

    public int lawful(int x) {
        return counted(line.track.has(x) ? line.curve.squares[x] : BAD);
    }

    public int permitted(int x) {
        return counted(line.track.has(x) ? root(line.curve.squares[x]) : BAD);
    }

    public int bound(int x) {
        return counted(line.track.has(x) ? line.curve.boundOf(line.track, x) : BAD);
    }

    public int stands(int x, int v) {
        boolean good = line.track.has(x) && within(v, 0, TOP_SPEED);
        return counted(good ? line.track.cellsToStand(x, v) : BAD);
    }

    public int speed(int x, int n) {
        boolean good = line.track.has(x) && within(n, 0, Track.MOST_CELLS);
        return counted(good ? line.track.fastestToStand(x, n) : BAD);
    }

    public int many(int v) {
        return counted(within(v, 0, TOP_SPEED) ? line.countPermitted(v) : BAD);
    }

    // ---- the train

    public int places(int x, int v) {
        history.notes(line.state);
        return settled(line.putsTrain(x, v));
    }

    public int steps(int handle) {
        history.notes(line.state);
        return settled(line.stepsOnce(handle));
    }

    public int drives(int n) {
        history.notes(line.state);
        return settled(line.stepsByDriver(n));
    }

    public int frees() {
        history.notes(line.state);
        return settled(line.releases());
    }

    public int train(int what) {
        return counted(line.trainValue(what));
    }

    // ---- texts

    public int type(int c) {
        return counted(script.adds(c));
    }

    public int clear() {
        return script.empties();
    }

    public int does() {
        if (!script.isReadable()) {
            blames(script.cause, script.fault);
            return -10 - where;
        }
        history.notes(line.state);
        for (int k = 0; k < script.orders; k++) {
            if (obeys(k) == BAD) {
                line.state.copies(history.noted());
                blames(REFUSED_ORDER, k);
                return -1000 - k;
            }
        }
        line.redraws();
        history.keeps();
        return script.orders;
    }

    public int why(int what) {
        return counted(what == 0 ? cause : what == 1 ? where : BAD);
    }

    public int back() {
        if (history.held == 0) {
            return counted(NO);
        }
        line.state.copies(history.takes());
        line.redraws();
        return history.held;
    }

    public int told(int what) {
        return counted(toldValue(what));
    }

    public long digest() {
        long h = 1926;
        for (int what = 0; what < TOLD_KINDS; what++) {
            h = 31 * h + toldValue(what);
        }
        h = 31 * h + cause;
        h = 31 * h + where;
        for (int x = 0; x < line.track.size; x++) {
            for (int what = 0; what <= 2; what++) {
                h = 31 * h + line.cellValue(x, what);
            }
            h = 31 * h + line.curve.squares[x];
        }
        for (int what = 0; what < TRAIN_KINDS; what++) {
            h = 31 * h + line.trainValue(what);
        }
        return h;
    }

    // ---- what the calls share

    private int counted(int answer) {
        if (answer == BAD) {
            bads++;
        } else if (answer == NO) {
            nos++;
        } else if (answer == FULL) {
            fulls++;
        }
        return answer;
    }

    // The state was noted ahead of the change; only a call that is not refused leaves it.
    private int settled(int answer) {
        if (answer != BAD && answer != NO) {
            history.keeps();
        }
        return counted(answer);
    }

    // Only a call that may have changed the track pays for drawing what is lawful anew.
    private int redrawn(int answer) {
        if (answer != BAD) {
            line.redraws();
        }
        return settled(answer);
    }

    private void blames(int newCause, int place) {
        cause = newCause;
        where = place;
    }

    // Goes past counted(), since by the text nothing counts, and past redrawn(), since one drawing
    // behind the last order is enough.
    private int obeys(int order) {
        int a = script.number(order, 0);
        int b = script.number(order, 1);
        int v = script.number(order, 2);
        switch (script.words[order]) {
            case Script.LEN: return line.resizes(a);
            case Script.CEIL: return line.track.relaid(CEILING, a, b, v);
            case Script.SLOPE: return line.track.relaid(GRADE, a, b, v);
            case Script.MARK: return line.track.marked(a, 1);
            case Script.BRAKES: return line.track.adjusted(BRAKE, a);
            case Script.PULLS: return line.track.adjusted(PULL, a);
            case Script.LONG: return line.track.adjusted(LENGTH, a);
            case Script.UNSURE: return line.track.adjusted(ERROR, a);
            default: return BAD;
        }
    }

    private int toldValue(int what) {
        switch (what) {
            case 0: return bads;
            case 1: return nos;
            case 2: return fulls;
            case 3: return line.track.size;
            case 11: return script.count;
            case 12: return history.held;
            default: return within(what, 4, 10) ? line.track.settings[what - 4] : BAD;
        }
    }

    private static boolean within(int value, int least, int most) {
        return value >= least && value <= most;
    }

    /** The greatest whole number that is, times itself, no more than the square. */
    private static int root(int square) {
        int found = 0;
        for (int bit = 1 << 14; bit > 0; bit >>= 1) {
            int tried = found + bit;
            if (tried * tried <= square) {
                found = tried;
            }
        }
        return found;
    }

    /** The cells and the settings. */
    private static final class Track {
        private static final int LEAST_CELLS = 5, MOST_CELLS = 200, FIRST_CELLS = 100;
        private static final int FIRST_CEILING = 40, MOST_CEILING = 60, MOST_GRADE = 20;
        private static final int[] LEAST = {1, 0, 1, 0, 0, 0, 0};
        private static final int[] MOST = {60, 30, 30, 100, 9, 9, 9};
        private static final int[] FIRST = {10, 6, 1, 20, 1, 3, 5};

        private int size;
        private final int[] ceilings = new int[MOST_CELLS];
        private final int[] grades = new int[MOST_CELLS];
        private final int[] beacons = new int[MOST_CELLS];
        private final int[] settings = new int[FIRST.length];

        private Track() {
            size = FIRST_CELLS;
            for (int x = 0; x < FIRST_CELLS; x++) {
                ceilings[x] = FIRST_CEILING;
            }
            System.arraycopy(FIRST, 0, settings, 0, FIRST.length);
        }

        private void copies(Track other) {
            size = other.size;
            System.arraycopy(other.ceilings, 0, ceilings, 0, MOST_CELLS);
            System.arraycopy(other.grades, 0, grades, 0, MOST_CELLS);
            System.arraycopy(other.beacons, 0, beacons, 0, MOST_CELLS);
            System.arraycopy(other.settings, 0, settings, 0, FIRST.length);
        }

        private boolean has(int x) {
            return within(x, 0, size - 1);
        }

        private int decel(int x) {
            return Math.max(1, settings[BRAKE] + grades[x]);
        }

        private int resized(int n) {
            if (!within(n, LEAST_CELLS, MOST_CELLS)) {
                return BAD;
            }
            int old = size;
            for (int x = old; x < n; x++) {
                ceilings[x] = FIRST_CEILING;
                grades[x] = 0;
                beacons[x] = 0;
            }
            size = n;
            return old;
        }

        private int relaid(int what, int a, int b, int v) {
            if (!has(a) || !has(b) || a > b) {
                return BAD;
            }
            if (what == CEILING && within(v, 0, MOST_CEILING)) {
                return filled(ceilings, a, b, v);
            }
            if (what == GRADE && within(v, -MOST_GRADE, MOST_GRADE)) {
                return filled(grades, a, b, v);
            }
            return BAD;
        }

        private static int filled(int[] row, int a, int b, int v) {
            int others = 0;
            for (int x = a; x <= b; x++) {
                if (row[x] != v) {
                    others++;
                    row[x] = v;
                }
            }
            return others;
        }

        private int marked(int a, int on) {
            if (!has(a) || !within(on, 0, 1)) {
                return BAD;
            }
            int old = beacons[a];
            beacons[a] = on;
            return old;
        }

        private int adjusted(int what, int v) {
            if (!within(what, BRAKE, STOP) || !within(v, LEAST[what], MOST[what])) {
                return BAD;
            }
            int old = settings[what];
            settings[what] = v;
            return old;
        }

        private int cellsToStand(int x, int v) {
            int square = v * v;
            for (int y = x; y < size; y++) {
                square -= decel(y);
                if (square <= 0) {
                    return y - x;
                }
            }
            return NONE;
        }

        // A train stands within n cells just if its square is no more than all their decels together.
        private int fastestToStand(int x, int n) {
            int braked = 0;
            for (int y = x; y < size && y - x <= n; y++) {
                braked += decel(y);
            }
            return Math.min(TOP_SPEED, root(braked));
        }
    }

    /** What a track makes lawful, cell by cell. */
    private static final class Curve {
        private final int[] inForce = new int[Track.MOST_CELLS];
        private final int[] squares = new int[Track.MOST_CELLS];

        private void draws(Track track) {
            drawsCeilings(track);
            int ahead = 0;
            for (int x = track.size - 1; x >= 0; x--) {
                ahead = Math.min(inForce[x] * inForce[x], ahead + track.decel(x));
                squares[x] = ahead;
            }
        }

        // Remembers where the least ceiling is, so that the train's length is rarely walked again.
        private void drawsCeilings(Track track) {
            int least = 0;
            for (int x = 0; x < track.size; x++) {
                int tail = Math.max(0, x - track.settings[LENGTH] + 1);
                if (least < tail) {
                    least = leastCeiling(track.ceilings, tail, x);
                } else if (track.ceilings[x] <= track.ceilings[least]) {
                    least = x;
                }
                inForce[x] = track.ceilings[least];
            }
        }

        private static int leastCeiling(int[] ceilings, int first, int last) {
            int least = first;
            for (int x = first + 1; x <= last; x++) {
                if (ceilings[x] <= ceilings[least]) {
                    least = x;
                }
            }
            return least;
        }

        private int boundOf(Track track, int x) {
            int braked = 0;
            for (int y = x; y < track.size; y++) {
                if (squares[x] == inForce[y] * inForce[y] + braked) {
                    return y;
                }
                braked += track.decel(y);
            }
            return track.size;
        }

        private int leastSquare(int first, int last) {
            int least = squares[first];
            for (int x = first + 1; x <= last; x++) {
                least = Math.min(least, squares[x]);
            }
            return least;
        }
    }

    /** Where the train is, what its odometer knows, and its counts. */
    private static final class Train {
        private int front, square, mode;
        private int low, high;
        private int alarms, overruns, wentOn;

        private void copies(Train other) {
            front = other.front;
            square = other.square;
            mode = other.mode;
            low = other.low;
            high = other.high;
            alarms = other.alarms;
            overruns = other.overruns;
            wentOn = other.wentOn;
        }

        private void puts(int x, int newSquare) {
            front = x;
            square = newSquare;
            mode = FREE;
            knowsPlace();
        }

        private void knowsPlace() {
            low = 1000 * front;
            high = 1000 * front;
        }

        private void goesOn(int newSquare, Track track) {
            square = newSquare;
            front++;
            wentOn++;
            low += 1000 - track.settings[ERROR];
            high += 1000 + track.settings[ERROR];
            if (track.beacons[front] == 1) {
                knowsPlace();
            }
        }
    }

    /** All that back() brings again. */
    private static final class State {
        private final Track track = new Track();
        private final Train train = new Train();

        private void copies(State other) {
            track.copies(other.track);
            train.copies(other.train);
        }
    }

    /** The states that can be gone back to. */
    private static final class History {
        private static final int MOST = 6;
        // One more than can be held: a state is noted there ahead of a call that may yet be refused.
        private static final int SLOTS = MOST + 1;

        private final State[] states = new State[SLOTS];
        private int next;
        private int held;

        private History() {
            for (int k = 0; k < SLOTS; k++) {
                states[k] = new State();
            }
        }

        private void notes(State state) {
            states[next].copies(state);
        }

        private State noted() {
            return states[next];
        }

        private void keeps() {
            next = (next + 1) % SLOTS;
            held = Math.min(MOST, held + 1);
        }

        private State takes() {
            next = (next + SLOTS - 1) % SLOTS;
            held--;
            return states[next];
        }
    }

    /** The track and the train as they are now. What answers BAD or NO changed nothing. */
    private static final class Line {
        private final State state = new State();
        private final Track track = state.track;
        private final Train train = state.train;
        private final Curve curve = new Curve();

        private Line() {
            redraws();
        }

        private void redraws() {
            curve.draws(track);
        }

        private int resizes(int n) {
            int old = track.resized(n);
            if (old != BAD) {
                train.puts(0, 0);
            }
            return old;
        }

        private int cellValue(int x, int what) {
            if (!track.has(x)) {
                return BAD;
            }
            switch (what) {
                case 0: return track.ceilings[x];
                case 1: return track.grades[x] + Track.MOST_GRADE;
                case 2: return track.beacons[x];
                case 3: return track.decel(x);
                case 4: return curve.inForce[x];
                default: return BAD;
            }
        }

        private int countPermitted(int v) {
            int count = 0;
            for (int x = 0; x < track.size; x++) {
                if (root(curve.squares[x]) == v) {
                    count++;
                }
            }
            return count;
        }

        private int putsTrain(int x, int v) {
            if (!track.has(x) || !within(v, 0, TOP_SPEED)) {
                return BAD;
            }
            train.puts(x, v * v);
            supervises();
            return train.mode;
        }

        private int stepsOnce(int handle) {
            if (!within(handle, -1, 1)) {
                return BAD;
            }
            return goesOn(handle) ? 1 : 0;
        }

        private int stepsByDriver(int n) {
            if (!within(n, 1, MOST_DRIVEN)) {
                return BAD;
            }
            int gone = 0;
            while (gone < n && goesOn(driverHandle())) {
                gone++;
            }
            return gone;
        }

        private int releases() {
            if (train.mode != STOPPED || train.square != 0) {
                return NO;
            }
            train.mode = FREE;
            supervises();
            return train.mode;
        }

        private boolean goesOn(int handle) {
            int square = train.square + gain(train.mode, handle);
            boolean atEnd = train.front >= track.size - 1;
            boolean onward = square > 0 && !atEnd;
            if (onward) {
                train.goesOn(square, track);
            } else {
                train.square = 0;
                if (square > 0) {
                    train.overruns++;
                }
            }
            supervises();
            return onward;
        }

        private int gain(int mode, int handle) {
            int brake = track.settings[BRAKE];
            int grade = track.grades[train.front];
            if (mode == STOPPED) {
                return -track.decel(train.front);
            }
            if (mode == SERVED) {
                return -(3 * brake / 4) - grade;
            }
            if (handle < 0) {
                return -(brake / 2) - grade;
            }
            return handle == 0 ? -grade : track.settings[PULL] - grade;
        }

        private void supervises() {
            if (train.mode == STOPPED) {
                return;
            }
            int above = root(train.square) - seen();
            if (above > track.settings[STOP]) {
                train.mode = STOPPED;
                train.alarms++;
            } else if (above > track.settings[SERVE]) {
                train.mode = SERVED;
            } else if (above > track.settings[WARN]) {
                train.mode = train.mode == SERVED ? SERVED : WARNED;
            } else {
                train.mode = FREE;
            }
        }

        private int driverHandle() {
            int last = Math.min(spanLast() + 1, track.size - 1);
            int most = curve.leastSquare(spanFirst(), last);
            for (int handle = 1; handle >= 0; handle--) {
                if (train.square + gain(FREE, handle) <= most) {
                    return handle;
                }
            }
            return -1;
        }

        private int spanFirst() {
            return kept(train.low / 1000);
        }

        private int spanLast() {
            return kept((train.high + 999) / 1000);
        }

        private int kept(int x) {
            return Math.max(0, Math.min(x, track.size - 1));
        }

        // The root grows with the square, so the least root is the root of the least square.
        private int seen() {
            return root(curve.leastSquare(spanFirst(), spanLast()));
        }

        private int trainValue(int what) {
            switch (what) {
                case 0: return train.front;
                case 1: return train.square;
                case 2: return root(train.square);
                case 3: return train.mode;
                case 4: return train.low;
                case 5: return train.high;
                case 6: return spanFirst();
                case 7: return spanLast();
                case 8: return seen();
                case 9: return train.alarms;
                case 10: return train.overruns;
                case 11: return driverHandle() + 1;
                case 12: return train.wentOn;
                default: return BAD;
            }
        }
    }

    /** The text, and the orders that it was last read as. */
    private static final class Script {
        private static final int LEN = 0, CEIL = 1, SLOPE = 2, MARK = 3;
        private static final int BRAKES = 4, PULLS = 5, LONG = 6, UNSURE = 7, WORDS = 8;
        private static final int MOST_BYTES = 120, MOST_BYTE = 127;
        // The shortest order, such as len9; has five bytes.
        private static final int MOST_ORDERS = MOST_BYTES / 5;
        private static final int MOST_NUMBERS = 3, MOST_FIGURES = 3;

        private final int[] bytes = new int[MOST_BYTES];
        private int count;
        private int place;
        private int cause, fault;
        private int orders;
        private final int[] words = new int[MOST_ORDERS];
        private final int[] numbers = new int[MOST_ORDERS * MOST_NUMBERS];

        private int adds(int c) {
            if (!within(c, 0, MOST_BYTE)) {
                return BAD;
            }
            if (count >= MOST_BYTES) {
                return FULL;
            }
            bytes[count] = c;
            count++;
            return count;
        }

        private int empties() {
            int old = count;
            count = 0;
            return old;
        }

        private int number(int order, int which) {
            return numbers[order * MOST_NUMBERS + which];
        }

        private boolean isReadable() {
            place = 0;
            for (int k = 0; k < MOST_ORDERS; k++) {
                if (!readsOrder(k)) {
                    return false;
                }
                orders = k + 1;
                skipsBlanks();
                if (place >= count) {
                    return true;
                }
            }
            return faulty(OTHER_FAULT, place);
        }

        private boolean readsOrder(int order) {
            skipsBlanks();
            int start = place;
            skipsLetters();
            if (place == start) {
                return faulty(OTHER_FAULT, place);
            }
            int word = wordBetween(start, place);
            if (word == NONE) {
                return faulty(STRANGE_WORD, start);
            }
            words[order] = word;
            int wanted = word == CEIL || word == SLOPE ? MOST_NUMBERS : 1;
            for (int which = 0; which < wanted; which++) {
                boolean signed = word == SLOPE && which == MOST_NUMBERS - 1;
                if (!readsNumber(order * MOST_NUMBERS + which, signed)) {
                    return false;
                }
            }
            skipsBlanks();
            if (!isAt(';')) {
                return faulty(OTHER_FAULT, place);
            }
            place++;
            return true;
        }

        private boolean readsNumber(int slot, boolean signed) {
            skipsBlanks();
            boolean negative = signed && isAt('-');
            if (negative) {
                place++;
            }
            int value = 0;
            int figures = 0;
            while (figures < MOST_FIGURES && isAtFigure()) {
                value = 10 * value + bytes[place] - '0';
                place++;
                figures++;
            }
            if (figures == 0 || isAtFigure()) {
                return faulty(OTHER_FAULT, place);
            }
            numbers[slot] = negative ? -value : value;
            return true;
        }

        private boolean faulty(int newCause, int at) {
            cause = newCause;
            fault = at;
            return false;
        }

        private void skipsBlanks() {
            while (place < count && bytes[place] == ' ') {
                place++;
            }
        }

        private void skipsLetters() {
            while (place < count && within(bytes[place], 'a', 'z')) {
                place++;
            }
        }

        private boolean isAt(int c) {
            return place < count && bytes[place] == c;
        }

        private boolean isAtFigure() {
            return place < count && within(bytes[place], '0', '9');
        }

        private int wordBetween(int start, int end) {
            for (int word = 0; word < WORDS; word++) {
                if (spells(start, end, spelling(word))) {
                    return word;
                }
            }
            return NONE;
        }

        private boolean spells(int start, int end, String spelling) {
            if (end - start != spelling.length()) {
                return false;
            }
            for (int k = 0; k < spelling.length(); k++) {
                if (bytes[start + k] != spelling.charAt(k)) {
                    return false;
                }
            }
            return true;
        }

        private static String spelling(int word) {
            switch (word) {
                case LEN: return "len";
                case CEIL: return "ceil";
                case SLOPE: return "grade";
                case MARK: return "beacon";
                case BRAKES: return "brake";
                case PULLS: return "pull";
                case LONG: return "long";
                case UNSURE: return "error";
                default: return "";
            }
        }
    }
}
