import java.lang.reflect.Method;
import java.math.BigInteger;
import java.util.ArrayList;
import java.util.Collections;
import java.util.List;
import java.util.TreeMap;
import java.util.TreeSet;

/**
 * Long runs of calls, each answer compared with that of a second program that is written from the
 * document alone and shares no way of working with the class: it solves the whole set of equations
 * of the beam (loads, height and slope at once) in fractions without a bound, sorts sets of bearings
 * and plans by the words of the document, and cuts texts into tokens before it reads them.
 * The runs are made by a fixed sequence of numbers, so that they are the same each time.
 */
public final class ModelTest {
    private static int wrong = 0;
    private static long calls = 0;
    private static final long[] told = new long[31];
    private static final long[] refused = new long[31];

    public static void main(String[] args) {
        for (int run = 0; run < 260; run++) {
            new Run(run).play();
        }
        for (int places = 0, number = 0; places < 1 << 13; places++) {
            if (Integer.bitCount(places) >= 2 && Integer.bitCount(places) <= 6 && number++ % 37 == 0) {
                for (int ends = 0; ends < 4; ends++) {
                    new Extreme(places, ends).look();
                }
            }
        }
        for (int call = 0; call < told.length; call++) {
            if (told[call] == 0 || refused[call] == 0) {
                System.out.println("the runs never had call " + Run.NAMES[call] + " answered and refused");
                wrong++;
            }
        }
        System.out.println(calls + " calls compared, " + wrong + " wrong");
        if (wrong != 0) {
            System.exit(1);
        }
    }

    // ---- the calls

    private static final class Run {
        static final String[] NAMES = {"bearing", "remove", "offset", "weight", "stiffness", "rise", "rises", "type",
            "read", "told", "count", "load", "lifted", "high", "through", "table", "coupling", "jack", "bounds",
            "fits", "plan", "move", "reading", "closes", "mended", "run", "whirl", "sheet", "drop", "item", "copy"};
        /** How often each call comes, by number. */
        private static final int[] OFTEN = {14, 4, 10, 12, 3, 8, 4, 6, 6, 8, 5, 14, 6, 10, 8, 6, 8, 8, 5,
            6, 3, 5, 10, 5, 5, 5, 4, 4, 1, 8, 4};
        private final int number;
        private final Numbers numbers;
        private final ShaftLine line = new ShaftLine();
        private final Model model = new Model();
        private final int reach;
        private int plans = 0;

        Run(int number) {
            this.number = number;
            numbers = new Numbers(number * 7919L + 17);
            reach = number % 4 == 0 ? 50 : number % 4 == 1 ? 12 : 3;
        }

        void play() {
            for (int k = 0; k < 512; k++) {
                int call = pick();
                if (call == 20 || call == 21) {
                    plans++;
                    if (plans > 8 || model.bearings.size() > 3 && plans > 2) {
                        continue;
                    }
                }
                if (!compare(call)) {
                    return;
                }
            }
        }

        private int pick() {
            int all = 0;
            for (int often : OFTEN) {
                all += often;
            }
            int left = numbers.upTo(all - 1);
            for (int call = 0; call < OFTEN.length; call++) {
                left -= OFTEN[call];
                if (left < 0) {
                    return call;
                }
            }
            return 0;
        }

        private boolean compare(int call) {
            long[] a = arguments(call);
            long got = answerOf(line, call, a);
            long due = answerOf(model, call, a);
            calls++;
            if (isRefusal(call, due)) {
                refused[call]++;
            } else {
                told[call]++;
            }
            if (got == due) {
                return true;
            }
            wrong++;
            StringBuilder text = new StringBuilder("run " + number + ": " + NAMES[call] + "(");
            for (int k = 0; k < a.length; k++) {
                text.append(k == 0 ? "" : ", ").append(a[k]);
            }
            System.out.println(text + ") answered " + got + ", due is " + due);
            return false;
        }

        private static boolean isRefusal(int call, long due) {
            switch (call) {
                case 2: case 5: case 21: return due < -100;
                case 9: return due <= -100001;
                case 11: case 13: case 14: case 15: case 16: case 17: return due < -1099511627000L;
                case 24: return due == -1 || due == -4;
                case 19: return due <= 0;
                default: return due < 0;
            }
        }

        private long[] arguments(int call) {
            switch (call) {
                case 0: return of(place(), near(-50, 50));
                case 1: return of(bearing());
                case 2: return of(bearing(), near(-50, 50));
                case 3: return of(place(), numbers.upTo(3) == 0 ? 0 : within(0, 50));
                case 4: return of(within(1, 20));
                case 5: return of(state(), place(), near(-20, 20));
                case 6: return of(state(), within(0, 3), within(0, 2), within(0, 3), within(0, 13));
                case 7: return text();
                case 9: return of(bearing(), within(0, 3));
                case 10: return of(within(0, 3));
                case 11: case 14: return of(state(), bearing(), within(0, 1));
                case 12: return of(state());
                case 13: return of(state(), place(), within(0, 1));
                case 15: return of(bearing(), bearing(), within(0, 1));
                case 16: return of(state(), place(), within(0, 1), within(0, 1));
                case 17: return of(state(), place(), near(-90, 90), within(0, 1));
                case 18: return numbers.upTo(1) == 0 ? of(within(0, 20), within(40, 600)) : of(within(0, 600), within(0, 600));
                case 19: case 20: return of(within(1, 15));
                case 21: return of(within(1, 15), bearing());
                case 22: return numbers.upTo(1) == 0 ? fittingReading() : of(bearing(), within(0, 600));
                case 24: return of(bearing());
                case 25: return of(within(1, 1000));
                case 27: return of(within(0, 3), within(0, 2), within(0, 13));
                case 28: return of(within(0, 3));
                case 29: return of(within(0, 3), within(0, 2), within(0, 12), numbers.upTo(3) == 0 ? (int) numbers.next() : near(-20, 20));
                case 30: return of(within(0, 3), within(0, 4), within(0, 3), within(0, 4), within(0, 8));
                default: return of();
            }
        }

        private static long[] of(long... all) {
            return all;
        }

        /** Mostly within the bounds, at times at them, one beyond, or far out. */
        private int within(int least, int most) {
            int how = numbers.upTo(59);
            switch (how) {
                case 0: return least - 1;
                case 1: return most + 1;
                case 2: return least;
                case 3: return most;
                case 4: return numbers.upTo(3) == 0 ? (numbers.upTo(1) == 0 ? Integer.MIN_VALUE : Integer.MAX_VALUE) : most;
                default: return least + numbers.upTo(most - least);
            }
        }

        /** As within, but mostly near 0. */
        private int near(int least, int most) {
            if (numbers.upTo(9) == 0) {
                return within(least, most);
            }
            int far = Math.min(reach, most);
            return numbers.upTo(2 * far) - far;
        }

        private int place() {
            return within(0, 12);
        }

        private int state() {
            return within(0, 3);
        }

        private int bearing() {
            return within(0, Math.max(0, model.bearings.size() - 1));
        }

        /** A READING that leaves at most one WRONG, where the line has two bearings or more. */
        private long[] fittingReading() {
            int bearing = numbers.upTo(Math.max(0, model.bearings.size() - 1));
            int due = model.mendedOrNot(bearing);
            return of(bearing, due >= 0 && due <= 600 ? due : within(0, 60));
        }

        private static final String[] PIECES = {"b1", "b4", "b12", "b0=5", "b7=-3", "b10=50", "b3 = - 50", "w3=30",
            "w0=50", "w12=1", "w8=25", "f7", "f20", "b6", "b9", "w5 = 0", "w4=51", "b13", "b2=51", "f0", "f21", "x",
            "b", "w7", "w 1 0 = 4", "b5=", "b8=--1", "b11=-", "B1", "w6=007", "b0002", "f 1", "b99999999999", "f1 2",
            "w2=1", "f3", "", " ", "b5 6", "w11=50 ", "=", "-1"};

        private long[] text() {
            StringBuilder text = new StringBuilder();
            String all = model.waiting;
            if (all.isEmpty()) {
                StringBuilder made = new StringBuilder();
                int clauses = numbers.upTo(9) == 0 ? 22 : 1 + numbers.upTo(8);
                int pieces = numbers.upTo(2) == 0 ? PIECES.length : 15;
                for (int k = 0; k < clauses; k++) {
                    made.append(k == 0 ? "" : numbers.upTo(7) == 0 ? " ; " : ";");
                    made.append(clauses > 20 ? "f" + (1 + numbers.upTo(8)) : PIECES[numbers.upTo(pieces - 1)]);
                }
                all = numbers.upTo(5) == 0 ? made + ";" : made.toString();
                if (all.length() > 120 - model.tape.length()) {
                    all = all.substring(0, Math.max(0, 120 - model.tape.length()));
                }
            }
            int n = Math.min(8, all.length());
            if (n == 0 || numbers.upTo(99) == 0) {
                return of((numbers.next() << 32) ^ numbers.next(), within(1, 8));
            }
            text.append(all, 0, n);
            model.waiting = all.substring(n);
            long w = numbers.upTo(1) == 0 ? 0 : numbers.next();
            for (int k = 0; k < n; k++) {
                w = w << 8 | text.charAt(k);
            }
            return of(w, n);
        }

        /** The same call of the class or of the model, by its name. */
        private static long answerOf(Object program, int call, long[] a) {
            Method method = null;
            for (Method m : program.getClass().getDeclaredMethods()) {
                if (m.getName().equals(NAMES[call])
                    && (m.getReturnType() == int.class || m.getReturnType() == long.class)) {
                    method = m;
                }
            }
            Object[] arguments = new Object[a.length];
            for (int k = 0; k < a.length; k++) {
                if (method.getParameterTypes()[k] == int.class) {
                    arguments[k] = (int) a[k];
                } else {
                    arguments[k] = a[k];
                }
            }
            try {
                return ((Number) method.invoke(program, arguments)).longValue();
            } catch (ReflectiveOperationException e) {
                throw new IllegalStateException(NAMES[call] + " threw", e);
            }
        }
    }

    /** A line with all at the ends of what it may be, and bearings up and down in turn. */
    private static final class Extreme {
        private final int places;
        private final int ends;
        private final ShaftLine line = new ShaftLine();
        private final Model model = new Model();

        Extreme(int places, int ends) {
            this.places = places;
            this.ends = ends;
        }

        void look() {
            int bearings = make();
            for (int what = 0; what < 2; what++) {
                for (int b = 0; b < bearings; b++) {
                    same(14, 1, b, what);
                    same(15, b, bearings - 1, what);
                }
                for (int p = 0; p < 13; p++) {
                    same(16, 1, p, 0, what);
                    same(16, 1, p, 1, what);
                }
                same(11, 1, bearings / 2, what);
                same(13, 1, 0, what);
                same(13, 1, 12, what);
                same(17, 1, places % 13, ends < 2 ? 90 : -90, what);
            }
            same(12, 1);
            same(26);
        }

        private int make() {
            same(4, ends % 2 == 0 ? 1 : 20);
            int bearings = 0;
            for (int p = 0; p < 13; p++) {
                same(3, p, 50);
                if ((places >> p & 1) == 1) {
                    int side = (bearings + ends / 2) % 2 == 0 ? 1 : -1;
                    same(0, p, 50 * side);
                    same(5, 1, p, 20 * side);
                    bearings++;
                }
            }
            return bearings;
        }

        private void same(int call, long... a) {
            long got = Run.answerOf(line, call, a);
            long due = Run.answerOf(model, call, a);
            calls++;
            if (got != due) {
                wrong++;
                System.out.println("places " + Integer.toBinaryString(places) + ", ends " + ends + ": " + Run.NAMES[call]
                    + java.util.Arrays.toString(a) + " answered " + got + ", due is " + due);
            }
        }
    }

    private static final class Numbers {
        private long seed;

        Numbers(long seed) {
            this.seed = seed;
        }

        long next() {
            seed = seed * 6364136223846793005L + 1442695040888963407L;
            return seed >>> 33;
        }

        int upTo(int most) {
            return most <= 0 ? 0 : (int) (next() % (most + 1));
        }
    }

    // ---- fractions without a bound

    private record Part(BigInteger above, BigInteger below) {
        static final Part ZERO = of(0);

        static Part of(long v) {
            return new Part(BigInteger.valueOf(v), BigInteger.ONE);
        }

        static Part made(BigInteger above, BigInteger below) {
            BigInteger shared = above.gcd(below);
            BigInteger by = below.signum() < 0 ? shared.negate() : shared;
            return new Part(above.divide(by), below.divide(by));
        }

        Part plus(Part o) {
            return made(above.multiply(o.below).add(o.above.multiply(below)), below.multiply(o.below));
        }

        Part less(Part o) {
            return made(above.multiply(o.below).subtract(o.above.multiply(below)), below.multiply(o.below));
        }

        Part times(Part o) {
            return made(above.multiply(o.above), below.multiply(o.below));
        }

        Part by(Part o) {
            return made(above.multiply(o.below), below.multiply(o.above));
        }

        int sign() {
            return above.signum();
        }

        int compared(Part o) {
            return less(o).sign();
        }

        long cut() {
            return above.divide(below).longValueExact();
        }

        long told(int what) {
            return (what == 0 ? above : below).longValueExact();
        }
    }

    // ---- the shaft

    /** A shaft through supports: the unknowns are all loads, and height and slope at place 0 of a straight line. */
    private static final class Shaft {
        final List<Integer> places;
        final int stiffness;
        final int[] weights;
        Part[] found;

        Shaft(List<Integer> places, List<Integer> heights, int stiffness, int[] weights) {
            this.places = places;
            this.stiffness = stiffness;
            this.weights = weights;
            int n = places.size();
            Part[][] rows = new Part[n + 2][n + 3];
            for (Part[] row : rows) {
                java.util.Arrays.fill(row, Part.ZERO);
            }
            for (int i = 0; i < n; i++) {
                for (int j = 0; j < n; j++) {
                    rows[i][j] = cubed(places.get(i) - places.get(j));
                }
                rows[i][n] = Part.of(1);
                rows[i][n + 1] = Part.of(places.get(i));
                Part due = Part.of(heights.get(i));
                for (int q = 0; q < 13; q++) {
                    due = due.plus(cubed(places.get(i) - q).times(Part.of(weights[q])));
                }
                rows[i][n + 2] = due;
                rows[n][i] = Part.of(1);
                rows[n + 1][i] = Part.of(places.get(i));
            }
            for (int q = 0; q < 13; q++) {
                rows[n][n + 2] = rows[n][n + 2].plus(Part.of(weights[q]));
                rows[n + 1][n + 2] = rows[n + 1][n + 2].plus(Part.of((long) q * weights[q]));
            }
            found = solved(rows);
        }

        /** How a unit pushed so far below a place bends the shaft up there. */
        private Part cubed(int d) {
            return d <= 0 ? Part.ZERO : Part.of((long) d * d * d).by(Part.of(6L * stiffness));
        }

        private Part squared(int d) {
            return d <= 0 ? Part.ZERO : Part.of((long) d * d).by(Part.of(2L * stiffness));
        }

        private static Part[] solved(Part[][] rows) {
            int n = rows.length;
            for (int c = 0; c < n; c++) {
                int at = c;
                while (rows[at][c].sign() == 0) {
                    at++;
                }
                Part[] row = rows[at];
                rows[at] = rows[c];
                rows[c] = row;
                Part first = row[c];
                for (int k = c; k <= n; k++) {
                    row[k] = row[k].by(first);
                }
                for (int r = 0; r < n; r++) {
                    Part times = rows[r][c];
                    if (r != c && times.sign() != 0) {
                        for (int k = c; k <= n; k++) {
                            rows[r][k] = rows[r][k].less(times.times(row[k]));
                        }
                    }
                }
            }
            Part[] all = new Part[n];
            for (int r = 0; r < n; r++) {
                all[r] = rows[r][n];
            }
            return all;
        }

        Part load(int support) {
            return found[support];
        }

        Part height(int p) {
            int n = places.size();
            Part y = found[n].plus(found[n + 1].times(Part.of(p)));
            for (int k = 0; k < n; k++) {
                y = y.plus(found[k].times(cubed(p - places.get(k))));
            }
            for (int q = 0; q < 13; q++) {
                y = y.less(Part.of(weights[q]).times(cubed(p - q)));
            }
            return y;
        }

        Part slope(int p) {
            int n = places.size();
            Part y = found[n + 1];
            for (int k = 0; k < n; k++) {
                y = y.plus(found[k].times(squared(p - places.get(k))));
            }
            for (int q = 0; q < 13; q++) {
                y = y.less(Part.of(weights[q]).times(squared(p - q)));
            }
            return y;
        }
    }

    private static final class Resting {
        Shaft shaft;
        TreeSet<Integer> members;

        Part load(int bearing) {
            return members.contains(bearing) ? shaft.load(members.headSet(bearing).size()) : Part.ZERO;
        }
    }

    // ---- the document

    private static final class Model {
        private static final long FAR = 1L << 40;
        /** By PLACE: OFFSET, WEAR, READING. */
        TreeMap<Integer, int[]> bearings = new TreeMap<>();
        int[] weights = new int[13];
        int stiffness = 10;
        int[][] rises = new int[4][13];
        int low = 0;
        int high = 600;
        String tape = "";
        String waiting = "";
        Row[] sheets = new Row[4];

        private static final class Row {
            int lane;
            int[] items;
        }

        private static boolean in(int v, int least, int most) {
            return least <= v && v <= most;
        }

        private boolean has(int bearing) {
            return in(bearing, 0, bearings.size() - 1);
        }

        private List<Integer> places() {
            return new ArrayList<>(bearings.keySet());
        }

        private int placeOf(int bearing) {
            return places().get(bearing);
        }

        private int[] of(int bearing) {
            return bearings.get(placeOf(bearing));
        }

        int bearing(int place, int offset) {
            if (!in(place, 0, 12) || !in(offset, -50, 50)) {
                return -1;
            }
            if (bearings.containsKey(place)) {
                return -2;
            }
            if (bearings.size() == 6) {
                return -3;
            }
            bearings.put(place, new int[] {offset, 0, 0});
            return bearings.headMap(place).size();
        }

        int remove(int bearing) {
            if (!has(bearing)) {
                return -1;
            }
            bearings.remove(placeOf(bearing));
            return bearings.size();
        }

        int offset(int bearing, int v) {
            if (!has(bearing) || !in(v, -50, 50)) {
                return -101;
            }
            int was = of(bearing)[0];
            of(bearing)[0] = v;
            return was;
        }

        int weight(int place, int v) {
            if (!in(place, 0, 12) || !in(v, 0, 50)) {
                return -1;
            }
            int was = weights[place];
            weights[place] = v;
            return was;
        }

        int stiffness(int f) {
            if (!in(f, 1, 20)) {
                return -1;
            }
            int was = stiffness;
            stiffness = f;
            return was;
        }

        int rise(int state, int place, int v) {
            if (!in(state, 0, 3) || !in(place, 0, 12) || !in(v, -20, 20)) {
                return -101;
            }
            int was = rises[state][place];
            rises[state][place] = v;
            return was;
        }

        int rises(int state, int sheet, int lane, int i, int n) {
            if (!in(state, 0, 3) || !in(sheet, 0, 3) || !in(lane, 0, 2) || !in(n, 0, 13)) {
                return -1;
            }
            Row row = sheets[sheet];
            if (row == null) {
                return -11;
            }
            if (row.lane != lane) {
                return -12;
            }
            if (i < 0 || (long) i + n > row.items.length) {
                return -13;
            }
            int[] taken = java.util.Arrays.copyOfRange(row.items, i, i + n);
            for (int v : taken) {
                if (!in(v, -20, 20)) {
                    return -2;
                }
            }
            for (int p = 0; p < n; p++) {
                rises[state][p] = taken[p];
            }
            return n;
        }

        int type(long w, int n) {
            if (!in(n, 1, 8)) {
                return -1;
            }
            String bytes = "";
            for (int k = 0; k < n; k++) {
                int c = (int) (w & 255);
                if (c < 32 || c > 126) {
                    return -1;
                }
                bytes = (char) c + bytes;
                w >>= 8;
            }
            if (tape.length() + n > 120) {
                return -3;
            }
            tape += bytes;
            return tape.length();
        }

        // Texts: tokens are [kind, where it begins, value]; kind is '0' of a number, else the byte itself.

        private static List<long[]> tokens(String text) {
            List<long[]> all = new ArrayList<>();
            for (int k = 0; k < text.length(); k++) {
                char c = text.charAt(k);
                if (c == ' ') {
                    continue;
                }
                if (!Character.isDigit(c)) {
                    all.add(new long[] {c, k, 0});
                    continue;
                }
                int end = k;
                while (end < text.length() && Character.isDigit(text.charAt(end))) {
                    end++;
                }
                BigInteger v = new BigInteger(text.substring(k, end)).min(BigInteger.valueOf(1L << 40));
                all.add(new long[] {'0', k, v.longValueExact()});
                k = end - 1;
            }
            all.add(new long[] {0, text.length(), 0});
            return all;
        }

        int read() {
            List<long[]> tokens = tokens(tape);
            tape = "";
            waiting = "";
            TreeMap<Integer, int[]> newBearings = new TreeMap<>();
            int[] newWeights = new int[13];
            int newStiffness = stiffness;
            int at = 0;
            for (int clause = 1; ; clause++) {
                long[] letter = tokens.get(at);
                int fault = -20 - (int) letter[1];
                if (letter[0] != 'b' && letter[0] != 'w' && letter[0] != 'f') {
                    return fault;
                }
                if (letter[0] == 'b' && newBearings.size() == 6) {
                    return fault;
                }
                long[] first = tokens.get(at + 1);
                boolean fine = first[0] == '0';
                if (letter[0] == 'f') {
                    fine = fine && first[2] >= 1 && first[2] <= 20;
                } else {
                    fine = fine && first[2] <= 12;
                    if (fine && letter[0] == 'b') {
                        fine = !newBearings.containsKey((int) first[2]);
                    }
                    if (fine && letter[0] == 'w') {
                        fine = newWeights[(int) first[2]] == 0;
                    }
                }
                if (!fine) {
                    return -20 - (int) first[1];
                }
                at += 2;
                if (letter[0] == 'f') {
                    newStiffness = (int) first[2];
                } else if (letter[0] == 'w' || tokens.get(at)[0] == '=') {
                    if (tokens.get(at)[0] != '=') {
                        return -20 - (int) tokens.get(at)[1];
                    }
                    at++;
                    int sign = 1;
                    if (letter[0] == 'b' && tokens.get(at)[0] == '-') {
                        sign = -1;
                        at++;
                    }
                    long[] second = tokens.get(at);
                    if (second[0] != '0' || second[2] > 50 || letter[0] == 'w' && second[2] < 1) {
                        return -20 - (int) second[1];
                    }
                    at++;
                    if (letter[0] == 'b') {
                        newBearings.put((int) first[2], new int[] {sign * (int) second[2], 0, 0});
                    } else {
                        newWeights[(int) first[2]] = (int) second[2];
                    }
                } else {
                    newBearings.put((int) first[2], new int[] {0, 0, 0});
                }
                long[] end = tokens.get(at);
                if (end[0] == 0) {
                    break;
                }
                if (end[0] != ';' || clause == 20) {
                    return -20 - (int) end[1];
                }
                at++;
            }
            bearings = newBearings;
            weights = newWeights;
            stiffness = newStiffness;
            return bearings.size();
        }

        int told(int bearing, int what) {
            if (!has(bearing) || !in(what, 0, 3)) {
                return -100001;
            }
            return what == 0 ? placeOf(bearing) : of(bearing)[what - 1];
        }

        int count(int what) {
            int all = 0;
            int many = 0;
            for (int w : weights) {
                all += w;
                many += w > 0 ? 1 : 0;
            }
            return what == 0 ? bearings.size() : what == 1 ? all : what == 2 ? stiffness : what == 3 ? many : -1;
        }

        // Loads.

        private List<Integer> standing(int state, List<Integer> places) {
            List<Integer> all = new ArrayList<>();
            for (int p : places) {
                all.add(bearings.get(p)[0] + rises[state][p]);
            }
            return all;
        }

        /** Sets of fewer ahead; of like many the one with the least bearing that is not in both. */
        private static int ahead(TreeSet<Integer> one, TreeSet<Integer> other) {
            if (one.size() != other.size()) {
                return one.size() - other.size();
            }
            for (int b = 0; b < 7; b++) {
                if (one.contains(b) != other.contains(b)) {
                    return one.contains(b) ? -1 : 1;
                }
            }
            return 0;
        }

        private Resting resting(List<Integer> places, List<Integer> heights) {
            List<TreeSet<Integer>> sets = new ArrayList<>();
            for (int bits = 0; bits < 1 << places.size(); bits++) {
                TreeSet<Integer> set = new TreeSet<>();
                for (int b = 0; b < places.size(); b++) {
                    if ((bits >> b & 1) == 1) {
                        set.add(b);
                    }
                }
                if (set.size() >= 2) {
                    sets.add(set);
                }
            }
            Collections.sort(sets, Model::ahead);
            for (TreeSet<Integer> set : sets) {
                List<Integer> somePlaces = new ArrayList<>();
                List<Integer> someHeights = new ArrayList<>();
                for (int b : set) {
                    somePlaces.add(places.get(b));
                    someHeights.add(heights.get(b));
                }
                Shaft shaft = new Shaft(somePlaces, someHeights, stiffness, weights);
                boolean holds = true;
                for (int k = 0; k < set.size() && holds; k++) {
                    holds = shaft.load(k).sign() >= 0;
                }
                for (int b = 0; b < places.size() && holds; b++) {
                    holds = set.contains(b) || shaft.height(places.get(b)).compared(Part.of(heights.get(b))) >= 0;
                }
                if (holds) {
                    Resting resting = new Resting();
                    resting.shaft = shaft;
                    resting.members = set;
                    return resting;
                }
            }
            return null;
        }

        private Resting restingIn(int state) {
            return resting(places(), standing(state, places()));
        }

        long load(int state, int bearing, int what) {
            if (!in(state, 0, 3) || !has(bearing) || !in(what, 0, 1)) {
                return -1 - FAR;
            }
            Resting resting = restingIn(state);
            return resting == null ? -2 - FAR : resting.load(bearing).told(what);
        }

        int lifted(int state) {
            if (!in(state, 0, 3)) {
                return -1;
            }
            Resting resting = restingIn(state);
            if (resting == null) {
                return -2;
            }
            int bits = 0;
            for (int b = 0; b < bearings.size(); b++) {
                bits += resting.load(b).sign() == 0 ? 1 << b : 0;
            }
            return bits;
        }

        long high(int state, int place, int what) {
            if (!in(state, 0, 3) || !in(place, 0, 12) || !in(what, 0, 1)) {
                return -1 - FAR;
            }
            Resting resting = restingIn(state);
            return resting == null ? -2 - FAR : resting.shaft.height(place).told(what);
        }

        long through(int state, int bearing, int what) {
            if (!in(state, 0, 3) || !has(bearing) || !in(what, 0, 1)) {
                return -1 - FAR;
            }
            if (bearings.size() < 2) {
                return -2 - FAR;
            }
            return new Shaft(places(), standing(state, places()), stiffness, weights).load(bearing).told(what);
        }

        long table(int a, int b, int what) {
            if (!has(a) || !has(b) || !in(what, 0, 1)) {
                return -1 - FAR;
            }
            if (bearings.size() < 2) {
                return -2 - FAR;
            }
            List<Integer> now = standing(0, places());
            List<Integer> then = new ArrayList<>(now);
            then.set(b, now.get(b) + 1);
            Part before = new Shaft(places(), now, stiffness, weights).load(a);
            return new Shaft(places(), then, stiffness, weights).load(a).less(before).told(what);
        }

        private Shaft part(int state, int from, int to) {
            List<Integer> some = new ArrayList<>();
            int[] someWeights = new int[13];
            for (int p = from; p < to; p++) {
                someWeights[p] = weights[p];
                if (bearings.containsKey(p)) {
                    some.add(p);
                }
            }
            return some.size() < 2 ? null : new Shaft(some, standing(state, some), stiffness, someWeights);
        }

        long coupling(int state, int place, int which, int what) {
            if (!in(state, 0, 3) || !in(place, 0, 12) || !in(which, 0, 1) || !in(what, 0, 1)) {
                return -1 - FAR;
            }
            Shaft left = part(state, 0, place);
            Shaft right = part(state, place, 13);
            if (left == null || right == null) {
                return -2 - FAR;
            }
            Part sag = left.height(place).less(right.height(place));
            Part gap = left.slope(place).less(right.slope(place)).times(Part.of(10));
            return (which == 0 ? sag : gap).told(what);
        }

        long jack(int state, int place, int v, int what) {
            if (!in(state, 0, 3) || !in(place, 0, 12) || !in(v, -90, 90) || !in(what, 0, 1) || bearings.containsKey(place)) {
                return -1 - FAR;
            }
            TreeMap<Integer, Integer> all = new TreeMap<>();
            for (int p : places()) {
                all.put(p, bearings.get(p)[0] + rises[state][p]);
            }
            all.put(place, v);
            Resting resting = resting(new ArrayList<>(all.keySet()), new ArrayList<>(all.values()));
            return resting == null ? -2 - FAR : resting.load(all.headMap(place).size()).told(what);
        }

        // Plans, readings, wear, whirl.

        int bounds(int low, int high) {
            if (!in(low, 0, 600) || !in(high, 0, 600) || low > high) {
                return -1;
            }
            this.low = low;
            this.high = high;
            return 1;
        }

        private boolean fitsMoved(int states, int[] moves) {
            for (int state = 0; state < 4; state++) {
                if ((states >> state & 1) == 0) {
                    continue;
                }
                List<Integer> heights = standing(state, places());
                for (int b = 0; b < heights.size(); b++) {
                    heights.set(b, heights.get(b) + moves[b]);
                }
                Resting resting = resting(places(), heights);
                if (resting == null) {
                    return false;
                }
                for (int b = 0; b < heights.size(); b++) {
                    Part load = resting.load(b);
                    if (load.compared(Part.of(low)) < 0 || load.compared(Part.of(high)) > 0) {
                        return false;
                    }
                }
            }
            return true;
        }

        int fits(int states) {
            return !in(states, 1, 15) ? -1 : fitsMoved(states, new int[6]) ? 1 : 0;
        }

        private static int moved(int[] moves) {
            int many = 0;
            for (int m : moves) {
                many += m != 0 ? 1 : 0;
            }
            return many;
        }

        private static int sizes(int[] moves) {
            int sum = 0;
            for (int m : moves) {
                sum += Math.abs(m);
            }
            return sum;
        }

        private static int better(int[] one, int[] other) {
            int by = moved(one) - moved(other);
            by = by != 0 ? by : sizes(one) - sizes(other);
            for (int b = 0; b < one.length && by == 0; b++) {
                by = one[b] - other[b];
            }
            return by;
        }

        private void allMoves(int[] moves, int b, List<int[]> all) {
            if (b == moves.length) {
                all.add(moves.clone());
                return;
            }
            for (int m = -2; m <= 2; m++) {
                if (in(of(b)[0] + m, -50, 50)) {
                    moves[b] = m;
                    allMoves(moves, b + 1, all);
                }
            }
        }

        private int[] planned(int states) {
            if (bearings.size() > 4) {
                return null;
            }
            List<int[]> all = new ArrayList<>();
            allMoves(new int[bearings.size()], 0, all);
            Collections.sort(all, Model::better);
            for (int[] moves : all) {
                if (fitsMoved(states, moves)) {
                    return moves;
                }
            }
            return null;
        }

        int plan(int states) {
            if (!in(states, 1, 15)) {
                return -1;
            }
            int[] moves = planned(states);
            return moves == null ? -4 : moved(moves);
        }

        int move(int states, int bearing) {
            if (!in(states, 1, 15) || !has(bearing)) {
                return -101;
            }
            int[] moves = planned(states);
            return moves == null ? -104 : moves[bearing];
        }

        int reading(int bearing, int v) {
            if (!has(bearing) || !in(v, 0, 600)) {
                return -1;
            }
            int was = of(bearing)[2];
            of(bearing)[2] = v;
            return was;
        }

        private boolean close() {
            int all = 0;
            int moments = 0;
            for (int p = 0; p < 13; p++) {
                int reading = bearings.containsKey(p) ? bearings.get(p)[2] : 0;
                all += weights[p] - reading;
                moments += p * (weights[p] - reading);
            }
            return all == 0 && moments == 0;
        }

        private static final int NO_READING = Integer.MIN_VALUE;

        /** Tries every other number in the place of a READING. */
        private int otherReading(int bearing) {
            int was = of(bearing)[2];
            int found = NO_READING;
            for (int v = -4000; v <= 4000; v++) {
                of(bearing)[2] = v;
                if (v != was && close()) {
                    found = v;
                }
            }
            of(bearing)[2] = was;
            return found;
        }

        int mendedOrNot(int bearing) {
            return has(bearing) ? otherReading(bearing) : NO_READING;
        }

        int closes() {
            if (bearings.isEmpty()) {
                return -4;
            }
            if (close()) {
                return 1;
            }
            for (int b = 0; b < bearings.size(); b++) {
                if (otherReading(b) != NO_READING) {
                    return 10 + b;
                }
            }
            return 0;
        }

        int mended(int bearing) {
            if (!has(bearing)) {
                return -1;
            }
            int v = otherReading(bearing);
            return close() || v == NO_READING ? -4 : v;
        }

        int run(int hours) {
            if (!in(hours, 1, 1000)) {
                return -1;
            }
            Resting resting = restingIn(0);
            if (resting == null) {
                return -2;
            }
            int less = 0;
            for (int b = 0; b < bearings.size(); b++) {
                int[] bearing = of(b);
                int was = bearing[0];
                for (int hour = 0; hour < hours; hour++) {
                    bearing[1] += (int) resting.load(b).cut();
                }
                while (bearing[1] >= 10000) {
                    bearing[1] -= 10000;
                    bearing[0] = bearing[0] == -50 ? -50 : bearing[0] - 1;
                }
                less += bearing[0] < was ? 1 : 0;
            }
            return less;
        }

        int whirl() {
            if (bearings.size() < 2) {
                return -2;
            }
            Shaft shaft = new Shaft(places(), Collections.nCopies(bearings.size(), 0), stiffness, weights);
            BigInteger once = BigInteger.ZERO;
            BigInteger twice = BigInteger.ZERO;
            for (int p = 0; p < 13; p++) {
                BigInteger y = BigInteger.valueOf(Part.ZERO.less(shaft.height(p)).times(Part.of(1000)).cut());
                BigInteger w = BigInteger.valueOf(weights[p]);
                once = once.add(w.multiply(y));
                twice = twice.add(w.multiply(y).multiply(y));
            }
            return twice.signum() == 0 ? 0 : once.multiply(BigInteger.valueOf(1000000)).divide(twice).intValueExact();
        }

        // Sheets.

        int sheet(int sheet, int lane, int n) {
            if (!in(sheet, 0, 3) || !in(lane, 0, 2) || n > 13) {
                return -1;
            }
            if (n < 0) {
                return -14;
            }
            sheets[sheet] = new Row();
            sheets[sheet].lane = lane;
            sheets[sheet].items = new int[n];
            return n;
        }

        int drop(int sheet) {
            if (!in(sheet, 0, 3)) {
                return -1;
            }
            if (sheets[sheet] == null) {
                return -11;
            }
            int n = sheets[sheet].items.length;
            sheets[sheet] = null;
            return n;
        }

        int item(int sheet, int lane, int i, int v) {
            if (!in(sheet, 0, 3) || !in(lane, 0, 2)) {
                return -1;
            }
            Row row = sheets[sheet];
            if (row == null) {
                return -11;
            }
            if (row.lane != lane) {
                return -12;
            }
            if (!in(i, 0, row.items.length - 1)) {
                return -13;
            }
            int bits = lane == 0 ? 24 : lane == 1 ? 16 : 0;
            row.items[i] = v << bits >> bits;
            return 1;
        }

        int copy(int from, int i, int to, int j, int n) {
            if (!in(from, 0, 3) || !in(to, 0, 3)) {
                return -1;
            }
            Row source = sheets[from];
            Row target = sheets[to];
            if (source == null || target == null) {
                return -11;
            }
            if (source.lane != target.lane) {
                return -12;
            }
            if (i < 0 || j < 0 || n < 0 || (long) i + n > source.items.length || (long) j + n > target.items.length) {
                return -13;
            }
            int[] taken = java.util.Arrays.copyOfRange(source.items, i, i + n);
            System.arraycopy(taken, 0, target.items, j, n);
            return n;
        }
    }
}
