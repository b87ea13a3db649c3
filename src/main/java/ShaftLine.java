/**
 * Lines of shafts: a long shaft that lies on bearings which only push, with weights along it.
 *
 * All numbers are whole: what is a fraction is held as a whole number times a known one.
 * Nothing is made after the constructor, so that many calls live in a small room.
 */
public final class ShaftLine {
    public static final int BAD = -1, NOT = -2, FULL = -3, NONE = -4, NULL = -11, CAST = -12, INDEX = -13, SIZE = -14;

    private static final int PLACES = 13;
    private static final int STATES = 4;
    private static final int ALL_STATES = (1 << STATES) - 1;
    private static final int SHEETS = 4;
    private static final int LANES = 3;
    private static final int ROW = 13;
    private static final int MOST_BEARINGS = 6;
    private static final int MOST_SUPPORTS = MOST_BEARINGS + 1;
    private static final int MOST_PLANNED = 4;
    private static final int MOST_SETS = 11;
    private static final int MOST_CLAUSES = 20;
    private static final int TAPE = 120;
    private static final int FURTHEST_OFFSET = 50;
    private static final int FURTHEST_RISE = 20;
    private static final int FURTHEST_JACK = 90;
    private static final int FURTHEST_MOVE = 2;
    private static final int MOST_WEIGHT = 50;
    private static final int MOST_STIFFNESS = 20;
    private static final int MOST_LOAD = 600;
    private static final int MOST_HOURS = 1000;
    private static final int WORN = 10000;
    private static final int NUMBER_STOPS = 1000;
    private static final int NO_STATE = -1;
    private static final long REFUSED = 1099511627776L;

    private final Line line = new Line();
    private final int[][] rises = new int[STATES][PLACES];
    private final byte[] tape = new byte[TAPE];
    private int taped = 0;
    private final Reader reader = new Reader();
    private final Sheet[] sheets = new Sheet[SHEETS];
    private final Beam beam = new Beam();
    private final Beam rightBeam = new Beam();
    private final Rest rest = new Rest();
    private int restState = NO_STATE;
    private boolean restFalls = false;
    private int low = 0;
    private int high = MOST_LOAD;
    private final Planner planner = new Planner();
    private int plannedStates = 0;
    private final Fraction answer = new Fraction();
    private final Fraction rightAnswer = new Fraction();

    public ShaftLine() {
        for (int k = 0; k < SHEETS; k++) {
            sheets[k] = new Sheet();
        }
    }

    // ---- 1 the line

    public int bearing(int place, int offset) {
        if (!isPlace(place) || !isWithin(offset, -FURTHEST_OFFSET, FURTHEST_OFFSET)) {
            return BAD;
        }
        if (line.bearingAt(place) >= 0) {
            return NOT;
        }
        if (line.count >= MOST_BEARINGS) {
            return FULL;
        }
        forgetAnswers();
        return line.insert(place, offset);
    }

    public int remove(int bearing) {
        if (!isBearing(bearing)) {
            return BAD;
        }
        forgetAnswers();
        line.delete(bearing);
        return line.count;
    }

    public int offset(int bearing, int v) {
        if (!isBearing(bearing) || !isWithin(v, -FURTHEST_OFFSET, FURTHEST_OFFSET)) {
            return BAD - 100;
        }
        forgetAnswers();
        int was = line.offset[bearing];
        line.offset[bearing] = v;
        return was;
    }

    public int weight(int place, int v) {
        if (!isPlace(place) || !isWithin(v, 0, MOST_WEIGHT)) {
            return BAD;
        }
        forgetAnswers();
        int was = line.weight[place];
        line.weight[place] = v;
        return was;
    }

    public int stiffness(int f) {
        if (!isWithin(f, 1, MOST_STIFFNESS)) {
            return BAD;
        }
        forgetAnswers();
        int was = line.stiffness;
        line.stiffness = f;
        return was;
    }

    public int rise(int state, int place, int v) {
        if (!isState(state) || !isPlace(place) || !isRise(v)) {
            return BAD - 100;
        }
        forgetAnswers();
        int was = rises[state][place];
        rises[state][place] = v;
        return was;
    }

    public int rises(int state, int sheet, int lane, int i, int n) {
        if (!isState(state) || !isSheet(sheet) || !isLane(lane) || !isWithin(n, 0, PLACES)) {
            return BAD;
        }
        Sheet from = sheets[sheet];
        int fault = from.faultOf(lane, i, n);
        if (fault < 0) {
            return fault;
        }
        for (int k = 0; k < n; k++) {
            if (!isRise(from.items[i + k])) {
                return NOT;
            }
        }
        forgetAnswers();
        for (int k = 0; k < n; k++) {
            rises[state][k] = from.items[i + k];
        }
        return n;
    }

    public int type(long w, int n) {
        if (!isWithin(n, 1, 8)) {
            return BAD;
        }
        for (int k = 0; k < n; k++) {
            if (!isWithin(byteOf(w, k), 32, 126)) {
                return BAD;
            }
        }
        if (taped + n > TAPE) {
            return FULL;
        }
        for (int k = n - 1; k >= 0; k--) {
            tape[taped] = (byte) byteOf(w, k);
            taped++;
        }
        return taped;
    }

    public int read() {
        int fault = reader.faultOf(tape, taped);
        taped = 0;
        if (fault >= 0) {
            return -20 - fault;
        }
        forgetAnswers();
        line.become(reader.draft);
        return line.count;
    }

    public int told(int bearing, int what) {
        if (!isBearing(bearing) || !isWithin(what, 0, 3)) {
            return BAD - 100000;
        }
        switch (what) {
            case 0:
                return line.place[bearing];
            case 1:
                return line.offset[bearing];
            case 2:
                return line.wear[bearing];
            default:
                return line.reading[bearing];
        }
    }

    public int count(int what) {
        switch (what) {
            case 0:
                return line.count;
            case 1:
                return line.allWeights();
            case 2:
                return line.stiffness;
            case 3:
                return line.placesWithWeights();
            default:
                return BAD;
        }
    }

    // ---- 2 loads

    public long load(int state, int bearing, int what) {
        if (!isState(state) || !isBearing(bearing) || !isPart(what)) {
            return refusal(BAD);
        }
        if (!comesToRest(state)) {
            return refusal(NOT);
        }
        answer.become(rest.pushOf(bearing), rest.beam.below);
        return answer.part(what);
    }

    public int lifted(int state) {
        if (!isState(state)) {
            return BAD;
        }
        if (!comesToRest(state)) {
            return NOT;
        }
        int bits = 0;
        for (int b = 0; b < line.count; b++) {
            if (rest.pushOf(b) == 0) {
                bits |= 1 << b;
            }
        }
        return bits;
    }

    public long high(int state, int place, int what) {
        if (!isState(state) || !isPlace(place) || !isPart(what)) {
            return refusal(BAD);
        }
        if (!comesToRest(state)) {
            return refusal(NOT);
        }
        answer.become(rest.beam.height(place), rest.beam.heightBelow());
        return answer.part(what);
    }

    public long through(int state, int bearing, int what) {
        if (!isState(state) || !isBearing(bearing) || !isPart(what)) {
            return refusal(BAD);
        }
        if (!goesThrough(beam, state, 0, PLACES)) {
            return refusal(NOT);
        }
        answer.become(beam.push[bearing], beam.below);
        return answer.part(what);
    }

    public long table(int a, int b, int what) {
        if (!isBearing(a) || !isBearing(b) || !isPart(what)) {
            return refusal(BAD);
        }
        if (line.count < 2) {
            return refusal(NOT);
        }
        beam.start(line.stiffness);
        for (int k = 0; k < line.count; k++) {
            beam.add(line.place[k], k == b ? 1 : 0);
        }
        beam.carry(line.weight, 0, 0);
        beam.solve();
        answer.become(beam.push[a], beam.below);
        return answer.part(what);
    }

    public long coupling(int state, int place, int which, int what) {
        if (!isState(state) || !isPlace(place) || !isPart(which) || !isPart(what)) {
            return refusal(BAD);
        }
        if (!goesThrough(beam, state, 0, place) || !goesThrough(rightBeam, state, place, PLACES)) {
            return refusal(NOT);
        }
        if (which == 0) {
            answer.become(beam.height(place), beam.heightBelow());
            rightAnswer.become(rightBeam.height(place), rightBeam.heightBelow());
        } else {
            answer.become(10 * beam.slope(place), beam.heightBelow());
            rightAnswer.become(10 * rightBeam.slope(place), rightBeam.heightBelow());
        }
        answer.takeAway(rightAnswer);
        return answer.part(what);
    }

    public long jack(int state, int place, int v, int what) {
        if (!isState(state) || !isPlace(place) || !isPart(what)) {
            return refusal(BAD);
        }
        if (!isWithin(v, -FURTHEST_JACK, FURTHEST_JACK) || line.bearingAt(place) >= 0) {
            return refusal(BAD);
        }
        restState = NO_STATE;
        int number = line.bearingsBelow(place);
        rest.start(line.stiffness, line.weight);
        putBearings(state, 0, number);
        rest.put(place, v);
        putBearings(state, number, line.count);
        if (!rest.settle()) {
            return refusal(NOT);
        }
        answer.become(rest.pushOf(number), rest.beam.below);
        return answer.part(what);
    }

    // ---- 3 plans, readings, wear, whirl

    public int bounds(int low, int high) {
        if (!isWithin(low, 0, MOST_LOAD) || !isWithin(high, low, MOST_LOAD)) {
            return BAD;
        }
        forgetAnswers();
        this.low = low;
        this.high = high;
        return 1;
    }

    public int fits(int states) {
        if (!isWithin(states, 1, ALL_STATES)) {
            return BAD;
        }
        for (int state = 0; state < STATES; state++) {
            if ((states >> state & 1) == 1 && !(comesToRest(state) && isWithinBounds())) {
                return 0;
            }
        }
        return 1;
    }

    public int plan(int states) {
        if (!isWithin(states, 1, ALL_STATES)) {
            return BAD;
        }
        makePlan(states);
        return planner.moved;
    }

    public int move(int states, int bearing) {
        if (!isWithin(states, 1, ALL_STATES) || !isBearing(bearing)) {
            return BAD - 100;
        }
        makePlan(states);
        if (planner.moved < 0 || bearing >= MOST_PLANNED) {
            return NONE - 100;
        }
        return planner.best[bearing];
    }

    public int reading(int bearing, int v) {
        if (!isBearing(bearing) || !isWithin(v, 0, MOST_LOAD)) {
            return BAD;
        }
        int was = line.reading[bearing];
        line.reading[bearing] = v;
        return was;
    }

    public int closes() {
        if (line.count == 0) {
            return NONE;
        }
        if (line.missing() == 0 && line.missingMoment() == 0) {
            return 1;
        }
        for (int b = 0; b < line.count; b++) {
            if (line.isWrong(b)) {
                return 10 + b;
            }
        }
        return 0;
    }

    public int mended(int bearing) {
        if (!isBearing(bearing)) {
            return BAD;
        }
        if (!line.isWrong(bearing)) {
            return NONE;
        }
        return line.reading[bearing] + line.missing();
    }

    public int run(int hours) {
        if (!isWithin(hours, 1, MOST_HOURS)) {
            return BAD;
        }
        if (!comesToRest(0)) {
            return NOT;
        }
        int less = 0;
        for (int b = 0; b < line.count; b++) {
            int hourly = (int) cut(rest.pushOf(b), rest.beam.below);
            if (line.wears(b, hourly * hours)) {
                less++;
            }
        }
        forgetAnswers();
        return less;
    }

    public int whirl() {
        if (line.count < 2) {
            return NOT;
        }
        beam.start(line.stiffness);
        for (int b = 0; b < line.count; b++) {
            beam.add(line.place[b], 0);
        }
        beam.carry(line.weight, 0, PLACES);
        beam.solve();
        long once = 0;
        long twice = 0;
        for (int p = 0; p < PLACES; p++) {
            if (line.weight[p] > 0) {
                long depth = cut(-1000 * beam.height(p), beam.heightBelow());
                once += line.weight[p] * depth;
                twice += line.weight[p] * depth * depth;
            }
        }
        return (int) cut(1000000 * once, twice);
    }

    // ---- 4 sheets

    public int sheet(int sheet, int lane, int n) {
        if (!isSheet(sheet) || !isLane(lane) || n > ROW) {
            return BAD;
        }
        if (n < 0) {
            return SIZE;
        }
        sheets[sheet].begin(lane, n);
        return n;
    }

    public int drop(int sheet) {
        if (!isSheet(sheet)) {
            return BAD;
        }
        Sheet row = sheets[sheet];
        if (!row.held) {
            return NULL;
        }
        row.held = false;
        return row.count;
    }

    public int item(int sheet, int lane, int i, int v) {
        if (!isSheet(sheet) || !isLane(lane)) {
            return BAD;
        }
        int fault = sheets[sheet].faultOf(lane, i, 1);
        if (fault < 0) {
            return fault;
        }
        sheets[sheet].put(i, v);
        return 1;
    }

    public int copy(int from, int i, int to, int j, int n) {
        if (!isSheet(from) || !isSheet(to)) {
            return BAD;
        }
        Sheet source = sheets[from];
        Sheet target = sheets[to];
        if (!source.held || !target.held) {
            return NULL;
        }
        if (source.lane != target.lane) {
            return CAST;
        }
        if (!source.has(i, n) || !target.has(j, n)) {
            return INDEX;
        }
        System.arraycopy(source.items, i, target.items, j, n);
        return n;
    }

    // ---- what the calls share

    private static boolean isWithin(int v, int least, int most) {
        return v >= least && v <= most;
    }

    private static boolean isPlace(int place) {
        return isWithin(place, 0, PLACES - 1);
    }

    private static boolean isState(int state) {
        return isWithin(state, 0, STATES - 1);
    }

    private static boolean isRise(int v) {
        return isWithin(v, -FURTHEST_RISE, FURTHEST_RISE);
    }

    private static boolean isSheet(int sheet) {
        return isWithin(sheet, 0, SHEETS - 1);
    }

    private static boolean isLane(int lane) {
        return isWithin(lane, 0, LANES - 1);
    }

    /** Whether it is 0 or 1: what is above or below in a fraction, SAG or GAP. */
    private static boolean isPart(int what) {
        return isWithin(what, 0, 1);
    }

    private boolean isBearing(int bearing) {
        return isWithin(bearing, 0, line.count - 1);
    }

    private static int byteOf(long w, int k) {
        return (int) (w >> 8 * k & 255);
    }

    private static long refusal(int why) {
        return why - REFUSED;
    }

    /** The one division of the program; a divisor of 0, which no caller has, answers 0. */
    private static long cut(long a, long b) {
        return b == 0 ? 0 : a / b;
    }

    /** The greatest common divisor; Euclid's way needs fewer than 100 steps for any two longs. */
    private static long commonDivisor(long a, long b) {
        long x = Math.abs(a);
        long y = Math.abs(b);
        for (int k = 0; k < 100 && y != 0; k++) {
            long left = x % y;
            x = y;
            y = left;
        }
        return x;
    }

    /** What was worked out of the line, its RISES or BOUNDS is void once one of them changes. */
    private void forgetAnswers() {
        restState = NO_STATE;
        plannedStates = 0;
    }

    private int standing(int state, int bearing) {
        return line.offset[bearing] + rises[state][line.place[bearing]];
    }

    private void putBearings(int state, int from, int to) {
        for (int b = from; b < to; b++) {
            rest.put(line.place[b], standing(state, b));
        }
    }

    /** Leaves in rest how THE SHAFT lies AT REST in a STATE; false where it FALLS. */
    private boolean comesToRest(int state) {
        if (restState != state) {
            rest.start(line.stiffness, line.weight);
            putBearings(state, 0, line.count);
            restFalls = !rest.settle();
            restState = state;
        }
        return !restFalls;
    }

    /** Leaves in a beam the part of THE SHAFT from a PLACE to one ahead of another; false with fewer than two BEARINGS. */
    private boolean goesThrough(Beam part, int state, int from, int to) {
        part.start(line.stiffness);
        for (int b = 0; b < line.count; b++) {
            if (line.place[b] >= from && line.place[b] < to) {
                part.add(line.place[b], standing(state, b));
            }
        }
        if (part.count < 2) {
            return false;
        }
        part.carry(line.weight, from, to);
        part.solve();
        return true;
    }

    private boolean isWithinBounds() {
        long below = rest.beam.below;
        for (int b = 0; b < line.count; b++) {
            long push = rest.pushOf(b);
            if (push < low * below || push > high * below) {
                return false;
            }
        }
        return true;
    }

    private void makePlan(int states) {
        if (plannedStates == states) {
            return;
        }
        planner.start(line, low, high);
        if (planner.mayPlan()) {
            restState = NO_STATE;
            planner.prepareSets(rest);
            for (int state = 0; state < STATES; state++) {
                if ((states >> state & 1) == 1) {
                    planner.prepareState(rest, rises[state], state);
                }
            }
            planner.search(states);
        }
        plannedStates = states;
    }

    /** A number above another, without a common divisor. */
    private static final class Fraction {
        long above = 0;
        long below = 1;

        void become(long above, long below) {
            long shared = commonDivisor(above, below);
            this.above = cut(above, shared);
            this.below = cut(below, shared);
        }

        void takeAway(Fraction other) {
            long shared = commonDivisor(below, other.below);
            long wider = cut(other.below, shared);
            become(above * wider - other.above * cut(below, shared), below * wider);
        }

        long part(int what) {
            return what == 0 ? above : below;
        }
    }

    /** BEARINGS by PLACES, WEIGHTS and STIFFNESS: what a TEXT tells, and WEAR and READINGS. */
    private static final class Line {
        int count = 0;
        final int[] place = new int[MOST_BEARINGS];
        final int[] offset = new int[MOST_BEARINGS];
        final int[] wear = new int[MOST_BEARINGS];
        final int[] reading = new int[MOST_BEARINGS];
        final int[] weight = new int[PLACES];
        int stiffness = 10;

        void clear() {
            count = 0;
            for (int p = 0; p < PLACES; p++) {
                weight[p] = 0;
            }
        }

        void become(Line other) {
            clear();
            for (int b = 0; b < other.count; b++) {
                insert(other.place[b], other.offset[b]);
            }
            for (int p = 0; p < PLACES; p++) {
                weight[p] = other.weight[p];
            }
            if (other.stiffness > 0) {
                stiffness = other.stiffness;
            }
        }

        int bearingAt(int p) {
            for (int b = 0; b < count; b++) {
                if (place[b] == p) {
                    return b;
                }
            }
            return -1;
        }

        int bearingsBelow(int p) {
            int below = 0;
            for (int b = 0; b < count; b++) {
                if (place[b] < p) {
                    below++;
                }
            }
            return below;
        }

        int insert(int p, int v) {
            if (count >= MOST_BEARINGS) {
                return FULL;
            }
            int number = bearingsBelow(p);
            for (int b = count; b > number; b--) {
                shift(b - 1, b);
            }
            place[number] = p;
            offset[number] = v;
            wear[number] = 0;
            reading[number] = 0;
            count++;
            return number;
        }

        void delete(int number) {
            for (int b = number; b + 1 < count; b++) {
                shift(b + 1, b);
            }
            count--;
        }

        private void shift(int from, int to) {
            place[to] = place[from];
            offset[to] = offset[from];
            wear[to] = wear[from];
            reading[to] = reading[from];
        }

        int allWeights() {
            int all = 0;
            for (int p = 0; p < PLACES; p++) {
                all += weight[p];
            }
            return all;
        }

        int placesWithWeights() {
            int places = 0;
            for (int p = 0; p < PLACES; p++) {
                if (weight[p] > 0) {
                    places++;
                }
            }
            return places;
        }

        /** All WEIGHTS less all READINGS. */
        int missing() {
            int left = allWeights();
            for (int b = 0; b < count; b++) {
                left -= reading[b];
            }
            return left;
        }

        /** The moments of WEIGHTS less those of READINGS. */
        int missingMoment() {
            int left = 0;
            for (int p = 0; p < PLACES; p++) {
                left += p * weight[p];
            }
            for (int b = 0; b < count; b++) {
                left -= place[b] * reading[b];
            }
            return left;
        }

        boolean isWrong(int b) {
            int left = missing();
            return left != 0 && left * place[b] == missingMoment();
        }

        /** Adds WEAR; whether the OFFSET became less. */
        boolean wears(int b, int more) {
            wear[b] += more;
            int full = (int) cut(wear[b], WORN);
            wear[b] -= full * WORN;
            int was = offset[b];
            offset[b] = Math.max(-FURTHEST_OFFSET, was - full);
            return offset[b] < was;
        }
    }

    /** Reads a TEXT into a draft of a line. */
    private static final class Reader {
        final Line draft = new Line();
        private byte[] text = null;
        private int length = 0;
        private int at = 0;
        private int numberAt = 0;
        private int fault = 0;

        /** The place of the FAULT, or -1: then the draft is the line that is told, of STIFFNESS 0 if none is. */
        int faultOf(byte[] bytes, int n) {
            text = bytes;
            length = n;
            at = 0;
            fault = -1;
            draft.clear();
            draft.stiffness = 0;
            for (int k = 1; k <= MOST_CLAUSES && readClause(); k++) {
                skipBlanks();
                if (at >= length) {
                    return -1;
                }
                if (next() != ';' || k == MOST_CLAUSES) {
                    return at;
                }
                at++;
            }
            return fault;
        }

        private boolean readClause() {
            skipBlanks();
            switch (next()) {
                case 'b':
                    return draft.count < MOST_BEARINGS ? readBearing() : fail(at);
                case 'w':
                    return readWeight();
                case 'f':
                    return readStiffness();
                default:
                    return fail(at);
            }
        }

        private boolean readBearing() {
            at++;
            int p = readNumber();
            if (p < 0) {
                return false;
            }
            if (p >= PLACES || draft.bearingAt(p) >= 0) {
                return fail(numberAt);
            }
            int v = 0;
            if (steps('=')) {
                boolean less = steps('-');
                v = readNumber();
                if (v < 0) {
                    return false;
                }
                if (v > FURTHEST_OFFSET) {
                    return fail(numberAt);
                }
                v = less ? -v : v;
            }
            draft.insert(p, v);
            return true;
        }

        private boolean readWeight() {
            at++;
            int p = readNumber();
            if (p < 0) {
                return false;
            }
            if (p >= PLACES || draft.weight[p] > 0) {
                return fail(numberAt);
            }
            if (!steps('=')) {
                return fail(at);
            }
            int v = readNumber();
            if (v < 0) {
                return false;
            }
            if (v < 1 || v > MOST_WEIGHT) {
                return fail(numberAt);
            }
            draft.weight[p] = v;
            return true;
        }

        private boolean readStiffness() {
            at++;
            int v = readNumber();
            if (v < 0) {
                return false;
            }
            if (v < 1 || v > MOST_STIFFNESS) {
                return fail(numberAt);
            }
            draft.stiffness = v;
            return true;
        }

        /** A number's value, or -1 behind a FAULT; no number grows beyond what any may be. */
        private int readNumber() {
            skipBlanks();
            numberAt = at;
            if (!isDigit()) {
                fail(at);
                return -1;
            }
            int v = 0;
            for (; at < length && isDigit(); at++) {
                v = Math.min(NUMBER_STOPS, 10 * v + next() - '0');
            }
            return v;
        }

        private boolean isDigit() {
            int c = next();
            return c >= '0' && c <= '9';
        }

        /** Steps over a byte, behind blanks, if it stands here. */
        private boolean steps(char c) {
            skipBlanks();
            if (next() != c) {
                return false;
            }
            at++;
            return true;
        }

        private void skipBlanks() {
            for (; at < length && next() == ' '; at++) {
                continue;
            }
        }

        private int next() {
            return text != null && at < length ? text[at] : -1;
        }

        private boolean fail(int place) {
            fault = place;
            return false;
        }
    }

    /** Nothing, or a row of a LANE. */
    private static final class Sheet {
        boolean held = false;
        int lane = 0;
        int count = 0;
        final int[] items = new int[ROW];

        void begin(int lane, int n) {
            held = true;
            this.lane = lane;
            count = n;
            for (int k = 0; k < ROW; k++) {
                items[k] = 0;
            }
        }

        boolean has(int i, int n) {
            return i >= 0 && n >= 0 && n <= count && i <= count - n;
        }

        int faultOf(int askedLane, int i, int n) {
            if (!held) {
                return NULL;
            }
            if (lane != askedLane) {
                return CAST;
            }
            return has(i, n) ? 0 : INDEX;
        }

        void put(int i, int v) {
            switch (lane) {
                case 0:
                    items[i] = (byte) v;
                    break;
                case 1:
                    items[i] = (short) v;
                    break;
                default:
                    items[i] = v;
                    break;
            }
        }
    }

    /**
     * A shaft that goes through all of its supports (two or more, by places).
     *
     * A start is made with the shaft on its first two supports alone, which tells what it sinks at the others.
     * What they must push to bring it up to where they stand follows from how it bends at each of them
     * (the equations of three moments): their matrix has entries beside its diagonal alone, so that its
     * inverse is told by the determinants of what lies ahead of and behind each support, in whole numbers.
     */
    private static final class Beam {
        int count = 0;
        final int[] place = new int[MOST_SUPPORTS];
        final int[] stand = new int[MOST_SUPPORTS];
        /** What the supports push, times below. */
        final long[] push = new long[MOST_SUPPORTS];
        long below = 1;
        private long stiff = 1;
        private long wide = 1;
        private long all = 0;
        private long moment = 0;
        /** Of each place: the sum of the weights below it, times their distances squared and cubed. */
        private final long[] squares = new long[PLACES];
        private final long[] cubes = new long[PLACES];
        private final long[] span = new long[MOST_SUPPORTS];
        private final long[] lack = new long[MOST_SUPPORTS];
        private final long[] turn = new long[MOST_SUPPORTS];
        private final long[] bend = new long[MOST_SUPPORTS];
        private final long[] ahead = new long[MOST_SUPPORTS];
        private final long[] behind = new long[MOST_SUPPORTS];

        void start(int stiffness) {
            count = 0;
            stiff = stiffness;
        }

        void add(int p, int height) {
            if (count < MOST_SUPPORTS) {
                place[count] = p;
                stand[count] = height;
                count++;
            }
        }

        /** Takes on the weights from a place to one ahead of another. */
        void carry(int[] weights, int from, int to) {
            long once = 0;
            long square = 0;
            long cube = 0;
            all = 0;
            moment = 0;
            for (int p = 0; p < PLACES; p++) {
                squares[p] = square;
                cubes[p] = cube;
                if (p >= from && p < to) {
                    all += weights[p];
                    moment += p * weights[p];
                }
                cube += 3 * (square + once) + all;
                square += 2 * once + all;
                once += all;
            }
        }

        void solve() {
            if (count < 2) {
                return;
            }
            measure();
            findDeterminants();
            findBends();
            findPushes();
        }

        private void measure() {
            wide = 1;
            for (int k = 0; k + 1 < count; k++) {
                span[k] = place[k + 1] - place[k];
                wide *= span[k];
            }
            for (int k = 0; k < count; k++) {
                lack[k] = span[0] * (6 * stiff * stand[k] + cubes[place[k]])
                    - firstPush() * cubeOf(place[k] - place[0]) - secondPush() * cubeOf(place[k] - place[1]);
            }
        }

        /** What the first support would push, were there but two, times the first span. */
        private long firstPush() {
            return place[1] * all - moment;
        }

        private long secondPush() {
            return moment - place[0] * all;
        }

        private void findDeterminants() {
            int last = count - 2;
            ahead[0] = 1;
            for (int a = 1; a <= last; a++) {
                ahead[a] = 2 * (span[a - 1] + span[a]) * ahead[a - 1];
                if (a > 1) {
                    ahead[a] -= span[a - 1] * span[a - 1] * ahead[a - 2];
                }
            }
            behind[last + 1] = 1;
            for (int a = last; a >= 2; a--) {
                behind[a] = 2 * (span[a - 1] + span[a]) * behind[a + 1];
                if (a < last) {
                    behind[a] -= span[a] * span[a] * behind[a + 2];
                }
            }
        }

        private void findBends() {
            int last = count - 2;
            for (int a = 1; a <= last; a++) {
                turn[a] = cut(wide, span[a - 1]) * (lack[a - 1] - lack[a])
                    + cut(wide, span[a]) * (lack[a + 1] - lack[a]);
                bend[a] = 0;
            }
            for (int a = 1; a <= last; a++) {
                long chain = ahead[a - 1];
                for (int b = a; b <= last; b++) {
                    long entry = chain * behind[b + 1];
                    bend[a] += entry * turn[b];
                    if (b > a) {
                        bend[b] += entry * turn[a];
                    }
                    chain *= -span[b];
                }
            }
        }

        private void findPushes() {
            int last = count - 2;
            long scale = ahead[last] * wide * wide;
            below = scale * span[0];
            for (int k = 2; k < count; k++) {
                push[k] = 0;
            }
            push[0] = scale * firstPush();
            push[1] = scale * secondPush();
            for (int a = 1; a <= last; a++) {
                long left = cut(wide, span[a - 1]) * bend[a];
                long right = cut(wide, span[a]) * bend[a];
                push[a - 1] += left;
                push[a] -= left + right;
                push[a + 1] += right;
            }
        }

        private static long cubeOf(long distance) {
            return distance > 0 ? distance * distance * distance : 0;
        }

        /** The height at a place, times heightBelow(). */
        long height(int p) {
            return firstLevel() * (place[1] - p) + secondLevel() * (p - place[0]) + span[0] * bulge(p);
        }

        /** The slope at a place, times heightBelow(). */
        long slope(int p) {
            long steep = -below * squares[p];
            for (int k = 0; k < count; k++) {
                long distance = p - place[k];
                if (distance > 0) {
                    steep += push[k] * distance * distance;
                }
            }
            return secondLevel() - firstLevel() + 3 * span[0] * steep;
        }

        long heightBelow() {
            return 6 * stiff * span[0] * below;
        }

        /** What all that pushes and pulls below a place adds to its height, beside a straight line. */
        private long bulge(int p) {
            long sum = -below * cubes[p];
            for (int k = 0; k < count; k++) {
                long distance = p - place[k];
                if (distance > 0) {
                    sum += push[k] * distance * distance * distance;
                }
            }
            return sum;
        }

        /** Where that straight line must be at the first support, for the shaft to be as high as that stands. */
        private long firstLevel() {
            return below * (6 * stiff * stand[0] + cubes[place[0]]);
        }

        private long secondLevel() {
            return below * (6 * stiff * stand[1] + cubes[place[1]])
                - push[0] * span[0] * span[0] * span[0];
        }
    }

    /** Bearings by places, and the first set of them on which a shaft lies AT REST. */
    private static final class Rest {
        final Beam beam = new Beam();
        int count = 0;
        final int[] place = new int[MOST_SUPPORTS];
        final int[] stand = new int[MOST_SUPPORTS];
        /** Of each bearing: which support of the beam it is, or -1. */
        private final int[] seat = new int[MOST_SUPPORTS];

        void start(int stiffness, int[] weights) {
            count = 0;
            beam.start(stiffness);
            beam.carry(weights, 0, PLACES);
        }

        void put(int p, int height) {
            if (count < MOST_SUPPORTS) {
                place[count] = p;
                stand[count] = height;
                count++;
            }
        }

        /** Codes have the bit of the first bearing highest: then the greater of two sets of like size is ahead. */
        boolean settle() {
            for (int size = 2; size <= count; size++) {
                for (int code = (1 << count) - 1; code > 0; code--) {
                    if (Integer.bitCount(code) == size) {
                        lay(code);
                        if (holds()) {
                            return true;
                        }
                    }
                }
            }
            return false;
        }

        void lay(int code) {
            beam.count = 0;
            for (int b = 0; b < count; b++) {
                seat[b] = -1;
                if ((code >> count - 1 - b & 1) == 1) {
                    seat[b] = beam.count;
                    beam.add(place[b], stand[b]);
                }
            }
            beam.solve();
        }

        private boolean holds() {
            for (int k = 0; k < beam.count; k++) {
                if (beam.push[k] < 0) {
                    return false;
                }
            }
            for (int b = 0; b < count; b++) {
                if (seat[b] < 0 && marginOf(b) < 0) {
                    return false;
                }
            }
            return true;
        }

        boolean isMember(int b) {
            return seat[b] >= 0;
        }

        long pushOf(int b) {
            return seat[b] >= 0 ? beam.push[seat[b]] : 0;
        }

        /** What must not be below 0: the LOAD of a member (times below), of another the gap (times heightBelow). */
        long marginOf(int b) {
            return seat[b] >= 0 ? pushOf(b) : beam.height(place[b]) - stand[b] * beam.heightBelow();
        }
    }

    /**
     * Looks for a PLAN. All margins of a set go straight with the MOVES, so they are worked out once
     * of each set: as the bearings stand in each STATE, and what one more of each MOVE adds.
     */
    private static final class Planner {
        /** How many BEARINGS the PLAN moves, or NONE. */
        int moved = NONE;
        final int[] best = new int[MOST_PLANNED];
        private Line line = null;
        private long low = 0;
        private long high = 0;
        private int bestSum = 0;
        private int sets = 0;
        private final int[] codes = new int[MOST_SETS];
        private final int[] members = new int[MOST_SETS];
        private final long[] belows = new long[MOST_SETS];
        private final long[] bases = new long[MOST_SETS * STATES * MOST_PLANNED];
        private final long[] gains = new long[MOST_SETS * MOST_PLANNED * MOST_PLANNED];
        private final long[] margins = new long[MOST_PLANNED];
        private final int[] moves = new int[MOST_PLANNED];
        private final int[] noWeights = new int[PLACES];

        void start(Line ofLine, int lowest, int highest) {
            line = ofLine;
            low = lowest;
            high = highest;
            moved = NONE;
            bestSum = 0;
        }

        boolean mayPlan() {
            return line != null && line.count >= 2 && line.count <= MOST_PLANNED;
        }

        void prepareSets(Rest rest) {
            sets = 0;
            for (int size = 2; size <= line.count; size++) {
                for (int code = (1 << line.count) - 1; code > 0; code--) {
                    if (Integer.bitCount(code) == size && sets < MOST_SETS) {
                        codes[sets] = code;
                        sets++;
                    }
                }
            }
            for (int raised = 0; raised < line.count; raised++) {
                rest.start(line.stiffness, noWeights);
                for (int b = 0; b < line.count; b++) {
                    rest.put(line.place[b], b == raised ? 1 : 0);
                }
                for (int set = 0; set < sets; set++) {
                    rest.lay(codes[set]);
                    keepMargins(rest, set, gains, (set * MOST_PLANNED + raised) * MOST_PLANNED);
                }
            }
        }

        void prepareState(Rest rest, int[] rises, int state) {
            rest.start(line.stiffness, line.weight);
            for (int b = 0; b < line.count; b++) {
                rest.put(line.place[b], line.offset[b] + rises[line.place[b]]);
            }
            for (int set = 0; set < sets; set++) {
                rest.lay(codes[set]);
                keepMargins(rest, set, bases, (set * STATES + state) * MOST_PLANNED);
            }
        }

        private void keepMargins(Rest rest, int set, long[] kept, int from) {
            members[set] = 0;
            belows[set] = rest.beam.below;
            for (int b = 0; b < line.count; b++) {
                kept[from + b] = rest.marginOf(b);
                if (rest.isMember(b)) {
                    members[set] |= 1 << b;
                }
            }
        }

        /** Goes through all MOVES by numbers, so that of like ones the first stays. */
        void search(int states) {
            int ends = 1;
            for (int b = 0; b < line.count; b++) {
                ends *= 2 * FURTHEST_MOVE + 1;
            }
            for (int number = 0; number < ends; number++) {
                if (takeMoves(number) && fitsInAll(states)) {
                    keepMoves();
                }
            }
        }

        /** Whether the MOVES of a number may be, and are better than the best. */
        private boolean takeMoves(int number) {
            int left = number;
            int many = 0;
            int sum = 0;
            for (int b = line.count - 1; b >= 0; b--) {
                moves[b] = left % (2 * FURTHEST_MOVE + 1) - FURTHEST_MOVE;
                left = left / (2 * FURTHEST_MOVE + 1);
                if (Math.abs(line.offset[b] + moves[b]) > FURTHEST_OFFSET) {
                    return false;
                }
                many += moves[b] == 0 ? 0 : 1;
                sum += Math.abs(moves[b]);
            }
            return moved < 0 || many < moved || many == moved && sum < bestSum;
        }

        private void keepMoves() {
            moved = 0;
            bestSum = 0;
            for (int b = 0; b < line.count; b++) {
                best[b] = moves[b];
                moved += moves[b] == 0 ? 0 : 1;
                bestSum += Math.abs(moves[b]);
            }
        }

        private boolean fitsInAll(int states) {
            for (int state = 0; state < STATES; state++) {
                if ((states >> state & 1) == 1 && !fitsIn(state)) {
                    return false;
                }
            }
            return true;
        }

        private boolean fitsIn(int state) {
            for (int set = 0; set < sets; set++) {
                if (holds(set, state)) {
                    return isWithinBounds(set);
                }
            }
            return false;
        }

        private boolean holds(int set, int state) {
            for (int b = 0; b < line.count; b++) {
                long margin = bases[(set * STATES + state) * MOST_PLANNED + b];
                for (int k = 0; k < line.count; k++) {
                    margin += moves[k] * gains[(set * MOST_PLANNED + k) * MOST_PLANNED + b];
                }
                if (margin < 0) {
                    return false;
                }
                margins[b] = margin;
            }
            return true;
        }

        private boolean isWithinBounds(int set) {
            for (int b = 0; b < line.count; b++) {
                long push = (members[set] >> b & 1) == 1 ? margins[b] : 0;
                if (push < low * belows[set] || push > high * belows[set]) {
                    return false;
                }
            }
            return true;
        }
    }
}
