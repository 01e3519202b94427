import java.util.ArrayDeque;
import java.util.ArrayList;
import java.util.Deque;
import java.util.List;
import java.util.Random;
import java.util.Set;
import java.util.regex.Matcher;
import java.util.regex.Pattern;

/**
 * Runs of drawn calls, each answer held against a model that follows the document's words as slowly as they stand.
 * The seeds are fixed, so that every run of the test is the same.
 */
public final class ModelTest {
    private static final int RUNS = 3000, CALLS = 500, REPORTED = 20;

    /** What back() brings again. */
    private static final class State {
        int[] ceiling, grade, beacon;
        int[] set = {10, 6, 1, 20, 1, 3, 5};
        int front, square, mode, low, high, alarms, overruns, went;

        State() {
            cells(100);
        }

        int size() {
            return ceiling.length;
        }

        void cells(int n) {
            int[] c = new int[n], g = new int[n], b = new int[n];
            for (int x = 0; x < n; x++) {
                boolean old = ceiling != null && x < ceiling.length;
                c[x] = old ? ceiling[x] : 40;
                g[x] = old ? grade[x] : 0;
                b[x] = old ? beacon[x] : 0;
            }
            ceiling = c;
            grade = g;
            beacon = b;
        }

        State copy() {
            State s = new State();
            s.ceiling = ceiling.clone();
            s.grade = grade.clone();
            s.beacon = beacon.clone();
            s.set = set.clone();
            s.front = front;
            s.square = square;
            s.mode = mode;
            s.low = low;
            s.high = high;
            s.alarms = alarms;
            s.overruns = overruns;
            s.went = went;
            return s;
        }

        int decel(int x) {
            int d = set[0] + grade[x];
            return d < 1 ? 1 : d;
        }

        int inForce(int x) {
            int least = Integer.MAX_VALUE;
            for (int y = 0; y <= x; y++) {
                if (y >= x - set[2] + 1) {
                    least = Math.min(least, ceiling[y]);
                }
            }
            return least;
        }

        int lawful(int x) {
            int law = 0;
            for (int y = size() - 1; y >= x; y--) {
                int f = inForce(y);
                law = Math.min(f * f, law + decel(y));
            }
            return law;
        }

        static int wholeRoot(int square) {
            int r = (int) Math.sqrt(square);
            while (r * r > square) {
                r--;
            }
            while ((r + 1) * (r + 1) <= square) {
                r++;
            }
            return r;
        }

        int bound(int x) {
            int law = lawful(x);
            for (int y = x; y < size(); y++) {
                int sum = inForce(y) * inForce(y);
                for (int z = x; z <= y - 1; z++) {
                    sum += decel(z);
                }
                if (sum == law) {
                    return y;
                }
            }
            return size();
        }

        int stands(int x, int v) {
            int s = v * v;
            int gone = 0;
            while (x + gone < size()) {
                int n = s - decel(x + gone);
                if (n <= 0) {
                    return gone;
                }
                s = n;
                gone++;
            }
            return -1;
        }

        int speed(int x, int n) {
            int best = 0;
            for (int v = 0; v <= 99; v++) {
                int gone = stands(x, v);
                if (gone != -1 && gone <= n) {
                    best = v;
                }
            }
            return best;
        }

        int first() {
            return Math.min(Math.max(low / 1000, 0), size() - 1);
        }

        int last() {
            return Math.min(Math.max((high + 999) / 1000, 0), size() - 1);
        }

        int seen() {
            int least = Integer.MAX_VALUE;
            for (int x = first(); x <= last(); x++) {
                least = Math.min(least, wholeRoot(lawful(x)));
            }
            return least;
        }

        int byHandle(int handle) {
            int g = grade[front];
            return handle == -1 ? -(set[0] / 2) - g : handle == 0 ? -g : set[1] - g;
        }

        int driver() {
            int least = Integer.MAX_VALUE;
            for (int x = first(); x <= Math.min(last() + 1, size() - 1); x++) {
                least = Math.min(least, lawful(x));
            }
            int taken = -1;
            for (int handle = -1; handle <= 1; handle++) {
                if (square + byHandle(handle) <= least) {
                    taken = handle;
                }
            }
            return taken;
        }

        void supervise() {
            if (mode == 3) {
                return;
            }
            int r = wholeRoot(square), p = seen();
            if (r > p + set[6]) {
                mode = 3;
                alarms++;
            } else if (r > p + set[5]) {
                mode = 2;
            } else if (r > p + set[4]) {
                if (mode != 2) {
                    mode = 1;
                }
            } else {
                mode = 0;
            }
        }

        int step(int handle) {
            int gain = mode == 3 ? -decel(front) : mode == 2 ? -(3 * set[0] / 4) - grade[front] : byHandle(handle);
            int n = square + gain;
            int answer = 0;
            if (n <= 0) {
                square = 0;
            } else if (front == size() - 1) {
                square = 0;
                overruns++;
            } else {
                square = n;
                front++;
                went++;
                low += 1000 - set[3];
                high += 1000 + set[3];
                if (beacon[front] == 1) {
                    low = 1000 * front;
                    high = 1000 * front;
                }
                answer = 1;
            }
            supervise();
            return answer;
        }
    }

    /** The whole object, as the document tells it. */
    private static final class Model {
        private static final Pattern ORDERS = Pattern.compile(
            "( *((len|beacon|brake|pull|long|error) *[0-9]{1,3}|ceil *[0-9]{1,3} +[0-9]{1,3} +[0-9]{1,3}"
            + "|grade *[0-9]{1,3} +[0-9]{1,3}( +[0-9]{1,3}| *-[0-9]{1,3})) *;)+ *");
        private static final Set<String> WORDS =
            Set.of("len", "ceil", "grade", "beacon", "brake", "pull", "long", "error");
        private static final Pattern NUMBER = Pattern.compile("-?[0-9]+");

        State s = new State();
        final Deque<State> older = new ArrayDeque<>();
        final int[] refused = new int[3];
        String text = "";
        int cause = 0, where = -1;

        int leaves(State before, int answer) {
            if (answer < -1) {
                return refuse(answer);
            }
            older.addLast(before);
            if (older.size() > 6) {
                older.removeFirst();
            }
            return answer;
        }

        int refuse(int answer) {
            if (answer <= -2 && answer >= -4) {
                refused[-2 - answer]++;
            }
            return answer;
        }

        boolean cell(int x) {
            return x >= 0 && x < s.size();
        }

        int lengthens(int n) {
            if (n < 5 || n > 200) {
                return -2;
            }
            int was = s.size();
            s.cells(n);
            s.front = s.square = s.mode = s.low = s.high = 0;
            return was;
        }

        int lays(int what, int a, int b, int v) {
            boolean good = what == 0 ? v >= 0 && v <= 60 : what == 1 && v >= -20 && v <= 20;
            if (!good || !cell(a) || !cell(b) || a > b) {
                return -2;
            }
            int others = 0;
            int[] row = what == 0 ? s.ceiling : s.grade;
            for (int x = a; x <= b; x++) {
                others += row[x] == v ? 0 : 1;
                row[x] = v;
            }
            return others;
        }

        int beacon(int a, int on) {
            if (!cell(a) || on < 0 || on > 1) {
                return -2;
            }
            int had = s.beacon[a];
            s.beacon[a] = on;
            return had;
        }

        int sets(int what, int v) {
            if (what < 0 || what > 6) {
                return -2;
            }
            int[][] range = {{1, 60}, {0, 30}, {1, 30}, {0, 100}, {0, 9}, {0, 9}, {0, 9}};
            if (v < range[what][0] || v > range[what][1]) {
                return -2;
            }
            int was = s.set[what];
            s.set[what] = v;
            return was;
        }

        int ofCell(int x, int what) {
            if (!cell(x) || what < 0 || what > 4) {
                return -2;
            }
            int[] all = {s.ceiling[x], s.grade[x] + 20, s.beacon[x], s.decel(x), s.inForce(x)};
            return all[what];
        }

        int many(int v) {
            if (v < 0 || v > 99) {
                return -2;
            }
            int count = 0;
            for (int x = 0; x < s.size(); x++) {
                count += State.wholeRoot(s.lawful(x)) == v ? 1 : 0;
            }
            return count;
        }

        int places(int x, int v) {
            if (!cell(x) || v < 0 || v > 99) {
                return -2;
            }
            s.front = x;
            s.square = v * v;
            s.mode = 0;
            s.low = s.high = 1000 * x;
            s.supervise();
            return s.mode;
        }

        int drives(int n) {
            if (n < 1 || n > 50) {
                return -2;
            }
            int gone = 0;
            for (int k = 0; k < n; k++) {
                if (s.step(s.driver()) == 0) {
                    return gone;
                }
                gone++;
            }
            return gone;
        }

        int frees() {
            if (s.mode != 3 || s.square != 0) {
                return -3;
            }
            s.mode = 0;
            s.supervise();
            return s.mode;
        }

        int train(int what) {
            if (what < 0 || what > 12) {
                return -2;
            }
            int[] all = {s.front, s.square, State.wholeRoot(s.square), s.mode, s.low, s.high, s.first(), s.last(),
                s.seen(), s.alarms, s.overruns, s.driver() + 1, s.went};
            return all[what];
        }

        int type(int c) {
            if (c < 0 || c > 127) {
                return -2;
            }
            if (text.length() == 120) {
                return -4;
            }
            text += (char) c;
            return text.length();
        }

        int told(int what) {
            if (what < 0 || what > 12) {
                return -2;
            }
            if (what < 3) {
                return refused[what];
            }
            if (what > 3 && what < 11) {
                return s.set[what - 4];
            }
            return what == 3 ? s.size() : what == 11 ? text.length() : older.size();
        }

        /** Whether something may follow that makes it a whole text. */
        static boolean opens(String head) {
            Matcher m = ORDERS.matcher(head);
            return m.matches() || m.hitEnd();
        }

        int fault(int cause, int where) {
            this.cause = cause;
            this.where = where;
            return -10 - where;
        }

        int does() {
            if (!ORDERS.matcher(text).matches()) {
                int good = 0;
                while (good < text.length() && opens(text.substring(0, good + 1))) {
                    good++;
                }
                int start = text.substring(0, good).lastIndexOf(';') + 1;
                while (start < text.length() && text.charAt(start) == ' ') {
                    start++;
                }
                int end = start;
                while (end < text.length() && text.charAt(end) >= 'a' && text.charAt(end) <= 'z') {
                    end++;
                }
                boolean strange = end > start && !WORDS.contains(text.substring(start, end));
                return strange ? fault(1, start) : fault(2, good);
            }
            State before = s.copy();
            int done = 0;
            for (String order : text.split(";")) {
                if (order.isBlank()) {
                    continue;
                }
                if (obey(order.strip()) == -2) {
                    s = before;
                    cause = 3;
                    where = done;
                    return -1000 - done;
                }
                done++;
            }
            return leaves(before, done);
        }

        int obey(String order) {
            String word = order.replaceAll("[^a-z].*", "");
            List<Integer> n = new ArrayList<>();
            Matcher m = NUMBER.matcher(order);
            while (m.find()) {
                n.add(Integer.valueOf(m.group()));
            }
            return switch (word) {
                case "len" -> lengthens(n.get(0));
                case "ceil" -> lays(0, n.get(0), n.get(1), n.get(2));
                case "grade" -> lays(1, n.get(0), n.get(1), n.get(2));
                case "beacon" -> beacon(n.get(0), 1);
                default -> sets(List.of("brake", "pull", "long", "error").indexOf(word), n.get(0));
            };
        }

        int back() {
            if (older.isEmpty()) {
                return refuse(-3);
            }
            s = older.removeLast();
            return older.size();
        }

        long digest() {
            long h = 1926;
            for (int what = 0; what <= 12; what++) {
                h = 31 * h + told(what);
            }
            h = 31 * (31 * h + cause) + where;
            int[] law = new int[s.size() + 1];
            for (int x = s.size() - 1; x >= 0; x--) {
                law[x] = Math.min(s.inForce(x) * s.inForce(x), law[x + 1] + s.decel(x));
            }
            for (int x = 0; x < s.size(); x++) {
                for (int what = 0; what <= 2; what++) {
                    h = 31 * h + ofCell(x, what);
                }
                h = 31 * h + law[x];
            }
            for (int what = 0; what <= 12; what++) {
                h = 31 * h + train(what);
            }
            return h;
        }

        long call(Call c) {
            State before = s.copy();
            int a = c.n[0], b = c.n[1], d = c.n[2], v = c.n[3];
            return switch (c.name) {
                case "lengthens" -> leaves(before, lengthens(a));
                case "lays" -> leaves(before, lays(a, b, d, v));
                case "beacon" -> leaves(before, beacon(a, b));
                case "sets" -> leaves(before, sets(a, b));
                case "cell" -> refuse(ofCell(a, b));
                case "lawful" -> refuse(cell(a) ? s.lawful(a) : -2);
                case "permitted" -> refuse(cell(a) ? State.wholeRoot(s.lawful(a)) : -2);
                case "bound" -> refuse(cell(a) ? s.bound(a) : -2);
                case "stands" -> refuse(cell(a) && b >= 0 && b <= 99 ? s.stands(a, b) : -2);
                case "speed" -> refuse(cell(a) && b >= 0 && b <= 200 ? s.speed(a, b) : -2);
                case "many" -> refuse(many(a));
                case "places" -> leaves(before, places(a, b));
                case "steps" -> leaves(before, a < -1 || a > 1 ? -2 : s.step(a));
                case "drives" -> leaves(before, drives(a));
                case "frees" -> leaves(before, frees());
                case "train" -> refuse(train(a));
                case "type" -> refuse(type(a));
                case "clear" -> {
                    int had = text.length();
                    text = "";
                    yield had;
                }
                case "does" -> does();
                case "why" -> refuse(a == 0 ? cause : a == 1 ? where : -2);
                case "back" -> back();
                case "told" -> refuse(told(a));
                default -> digest();
            };
        }
    }

    private static final class Call {
        final String name;
        final int[] n = new int[4];

        Call(String name, int... numbers) {
            this.name = name;
            System.arraycopy(numbers, 0, n, 0, numbers.length);
        }

        @Override
        public String toString() {
            return name + "(" + n[0] + ", " + n[1] + ", " + n[2] + ", " + n[3] + ")";
        }
    }

    private static long call(SpeedWarden w, Call c) {
        int a = c.n[0], b = c.n[1], d = c.n[2], v = c.n[3];
        return switch (c.name) {
            case "lengthens" -> w.lengthens(a);
            case "lays" -> w.lays(a, b, d, v);
            case "beacon" -> w.beacon(a, b);
            case "sets" -> w.sets(a, b);
            case "cell" -> w.cell(a, b);
            case "lawful" -> w.lawful(a);
            case "permitted" -> w.permitted(a);
            case "bound" -> w.bound(a);
            case "stands" -> w.stands(a, b);
            case "speed" -> w.speed(a, b);
            case "many" -> w.many(a);
            case "places" -> w.places(a, b);
            case "steps" -> w.steps(a);
            case "drives" -> w.drives(a);
            case "frees" -> w.frees();
            case "train" -> w.train(a);
            case "type" -> w.type(a);
            case "clear" -> w.clear();
            case "does" -> w.does();
            case "why" -> w.why(a);
            case "back" -> w.back();
            case "told" -> w.told(a);
            default -> w.digest();
        };
    }

    /** Draws calls that mostly can be done, with some a little or far beside. */
    private static final class Drawer {
        final Random random;
        final Deque<Call> waiting = new ArrayDeque<>();

        Drawer(long seed) {
            random = new Random(seed);
        }

        int from(int least, int most) {
            int odd = random.nextInt(60);
            if (odd == 0) {
                return least - 1;
            }
            if (odd == 1) {
                return most + 1;
            }
            if (odd == 2) {
                int[] far = {Integer.MIN_VALUE, Integer.MAX_VALUE, -1, 0, 1000};
                return far[random.nextInt(far.length)];
            }
            return inner(least, most);
        }

        int inner(int least, int most) {
            return least + random.nextInt(most - least + 1);
        }

        Call next(Model m) {
            if (!waiting.isEmpty()) {
                return waiting.removeFirst();
            }
            int end = m.s.size() - 1;
            switch (random.nextInt(30)) {
                case 0: return new Call("lengthens", random.nextBoolean() ? from(5, 200) : from(5, 30));
                case 1:
                case 2: return lays(end);
                case 3: return new Call("beacon", from(0, end), from(0, 1));
                case 4: return sets();
                case 5: return new Call("cell", from(0, end), from(0, 4));
                case 6: return new Call("lawful", from(0, end));
                case 7: return new Call("permitted", from(0, end));
                case 8: return new Call("bound", from(0, end));
                case 9: return new Call("stands", from(0, end), from(0, random.nextBoolean() ? 99 : 20));
                case 10: return new Call("speed", from(0, end), from(0, random.nextBoolean() ? 200 : 20));
                case 11: return new Call("many", random.nextInt(4) == 0 ? from(0, 99) : near(m));
                case 12: return new Call("places", from(0, end), random.nextInt(4) == 0 ? from(0, 99) : from(0, 25));
                case 13: return new Call("places", inner(0, end), Math.max(0, near(m) + inner(-2, 8)));
                case 14:
                case 15:
                case 16:
                case 17: return new Call("steps", from(-1, 1));
                case 18:
                case 19: return new Call("drives", random.nextBoolean() ? from(1, 50) : from(1, 5));
                case 20: return new Call("frees");
                case 21: return new Call("train", from(0, 12));
                case 22: return new Call("type", from(0, 127));
                case 23: return new Call("why", from(0, 1));
                case 24: return new Call("back");
                case 25: return new Call("told", from(0, 12));
                case 26:
                case 27: return new Call("digest");
                default: return text(m);
            }
        }

        int near(Model m) {
            return State.wholeRoot(m.s.lawful(inner(0, m.s.size() - 1)));
        }

        Call lays(int end) {
            int a = from(0, end), b = random.nextInt(20) == 0 ? from(0, end) : Math.min(end, Math.max(a, 0) + inner(0, 25));
            int what = from(0, 1);
            int v = what == 1 ? from(-20, 20) : random.nextBoolean() ? from(0, 60) : from(0, 15);
            return new Call("lays", what, a, b, v);
        }

        Call sets() {
            int[] most = {60, 30, 30, 100, 9, 9, 9};
            int what = from(0, 6);
            return new Call("sets", what, from(0, what >= 0 && what <= 6 ? most[what] : 9));
        }

        /** A text of some orders, whole or with a byte or two put wrong, then does(). */
        Call text(Model m) {
            StringBuilder text = new StringBuilder();
            for (int k = inner(0, 4); k >= 0; k--) {
                text.append(order(m.s.size()));
            }
            for (int k = random.nextBoolean() ? 0 : inner(1, 2); k > 0 && text.length() > 0; k--) {
                spoil(text);
            }
            if (random.nextInt(8) != 0) {
                waiting.add(new Call("clear"));
            }
            for (int k = 0; k < text.length(); k++) {
                waiting.add(new Call("type", text.charAt(k)));
            }
            waiting.add(new Call("does"));
            waiting.add(new Call("why", 0));
            waiting.add(new Call("why", 1));
            waiting.add(new Call("digest"));
            return waiting.removeFirst();
        }

        String order(int size) {
            int a = inner(0, size - 1), b = inner(a, size - 1);
            String sign = random.nextBoolean() ? " -" : random.nextBoolean() ? "-" : " ";
            return switch (inner(0, 9)) {
                case 0 -> "len " + inner(4, 201) + ";";
                case 1, 2 -> blank() + "ceil" + blank() + a + " " + b + blank() + " " + inner(0, 61) + blank() + ";";
                case 3, 4 -> "grade" + blank() + a + " " + blank() + b + sign + inner(0, 21) + ";" + blank();
                case 5 -> "beacon" + a + ";";
                case 6 -> "brake " + inner(0, 61) + ";";
                case 7 -> "pull" + blank() + inner(0, 31) + ";";
                case 8 -> "long " + inner(0, 31) + ";";
                default -> blank() + "error 0" + inner(0, 99) + blank() + ";";
            };
        }

        String blank() {
            return " ".repeat(random.nextInt(3) == 0 ? inner(0, 2) : 0);
        }

        void spoil(StringBuilder text) {
            String odd = " ;-0123456789abceglnopru~A/:`{@";
            int at = random.nextInt(text.length());
            switch (random.nextInt(4)) {
                case 0 -> text.deleteCharAt(at);
                case 1 -> text.insert(at, odd.charAt(random.nextInt(odd.length())));
                case 2 -> text.setCharAt(at, odd.charAt(random.nextInt(odd.length())));
                default -> text.setLength(at);
            }
        }
    }

    public static void main(String[] args) {
        int wrong = 0;
        int[] kinds = new int[6];
        for (int run = 0; run < RUNS && wrong < REPORTED; run++) {
            SpeedWarden w = new SpeedWarden();
            Model m = new Model();
            Drawer drawer = new Drawer(run);
            for (int k = 0; k < CALLS; k++) {
                Call c = drawer.next(m);
                long want = m.call(c);
                long got = call(w, c);
                if (c.name.equals("does")) {
                    kinds[want > 0 ? 0 : want <= -1000 ? 3 : m.cause]++;
                }
                if (c.name.equals("places") && want == 3) {
                    kinds[4]++;
                }
                if (c.name.equals("frees") && want == 0) {
                    kinds[5]++;
                }
                if (got != want) {
                    wrong++;
                    System.out.println("run " + run + ", call " + k + ": " + c + " answered " + got + ", due is " + want
                        + (c.name.equals("does") ? " for '" + m.text + "'" : ""));
                    break;
                }
            }
        }
        System.out.println(RUNS + " runs; texts done " + kinds[0] + ", strange words " + kinds[1] + ", other faults "
            + kinds[2] + ", orders refused " + kinds[3] + ", trains stopped " + kinds[4] + ", freed " + kinds[5]);
        for (int seen : kinds) {
            if (seen == 0) {
                wrong++;
                System.out.println("a kind of call was never drawn");
            }
        }
        if (wrong != 0) {
            System.exit(1);
        }
    }
}
