/** BOUNDS, FIT and PLANS of part 3, and the promises 20 to 23. */
final class BoundariesOfPlans {
    /** All but the one at place 6 are 50: a bearing there has a load of 600, one at 7 has none. */
    private static final String[] SIX_HUNDRED = {
        "bearing(6, 0) -> 0", "bearing(7, 0) -> 1", "weight(0|1|2|3|4|5|7|8|9|10|11|12, 50) -> 0", "load(0, 0) -> 600", "load(0, 1) -> 0"};
    /** Three bearings with weights over the outer ones: of loads 25, 22 and 25, as they stand alike. */
    private static final String OUTER = "w0=20;w3=16;w9=16;w12=20";
    private static final String INNER = "w3=16;w9=16";

    private BoundariesOfPlans() {
    }

    static void all() {
        boundsAndFit();
        plans();
        likeOnes();
        bounds();
        fits();
        plan();
        move();
    }

    private static String[] sixHundredAnd(String... rows) {
        String[] all = new String[SIX_HUNDRED.length + rows.length];
        System.arraycopy(SIX_HUNDRED, 0, all, 0, SIX_HUNDRED.length);
        System.arraycopy(rows, 0, all, SIX_HUNDRED.length, rows.length);
        return all;
    }

    private static void boundsAndFit() {
        String part = "Part 3";
        Runs.of(part, "BOUNDS of LOADS (0 .. 600 both; 0, 600 at first)", sixHundredAnd(
            "fits(1) -> 1", "weight(6, 1) -> 0", "load(0, 0) -> 601", "fits(1) -> 0", "bounds(0, 601) -> BAD", "fits(1) -> 0",
            "weight(6, 0) -> 1", "bounds(0, 599) -> 1", "fits(1) -> 0", "bounds(0, 600) -> 1", "fits(1) -> 1", "bounds(1, 600) -> 1", "fits(1) -> 0",
            "bounds(600, 600) -> 1", "fits(1) -> 0", "bounds(-1, 600) -> BAD", "bounds(601, 601) -> BAD", "fits(1) -> 0",
            "bounds(0, 0) -> 1", "fits(1) -> 0", "weight(0|1|2|3|4|5|7|8|9|10|11|12, 0) -> 50", "fits(1) -> 1"));
        Runs.of(part, "the LOAD of each BEARING is LOW or more, HIGH or less",
            "line(b0;b12;w6=41) -> 2", "load(0, 0|1) -> 41/2", "bounds(20, 21) -> 1", "fits(1) -> 1", "bounds(21, 21) -> 1", "fits(1) -> 0",
            "bounds(20, 20) -> 1", "fits(1) -> 0", "bounds(0, 20) -> 1", "fits(1) -> 0", "bounds(21, 600) -> 1", "fits(1) -> 0",
            "weight(6, 40) -> 41", "bounds(20, 20) -> 1", "fits(1) -> 1", "bounds(0, 19) -> 1", "fits(1) -> 0", "bounds(21, 600) -> 1", "fits(1) -> 0",
            "weight(12, 1) -> 0", "bounds(20, 20) -> 1", "fits(1) -> 0", "bounds(20, 21) -> 1", "fits(1) -> 1", "bounds(21, 21) -> 1", "fits(1) -> 0");
        Runs.of(part, "the LOAD of each BEARING is LOW or more, HIGH or less",
            "line(b0;b6=-12;b12;w3=2;w9=2;f9) -> 3", "lifted(0) -> 2", "bounds(0, 2) -> 1", "fits(1) -> 1", "bounds(1, 2) -> 1", "fits(1) -> 0",
            "offset(1, -10) -> -12", "load(0, 1) -> 1/4", "fits(1) -> 0", "bounds(0, 2) -> 1", "fits(1) -> 1", "bounds(0, 1) -> 1", "fits(1) -> 0");
        Runs.of(part, "the LOAD of each BEARING is LOW or more, HIGH or less",
            "line(b0;b12;w0=40;w6=10) -> 2", "bounds(0, 44) -> 1", "fits(1) -> 0", "plan(1) -> NONE", "bounds(0, 45) -> 1", "fits(1) -> 1", "plan(1) -> 0",
            "line(b0;b12;w6=10;w12=40) -> 2", "bounds(0, 44) -> 1", "fits(1) -> 0", "plan(1) -> NONE", "bounds(5, 45) -> 1", "fits(1) -> 1", "plan(1) -> 0",
            "bounds(6, 45) -> 1", "fits(1) -> 0", "plan(1) -> NONE", "line(b0;b1;b2=-3) -> 3", "bounds(0, 0) -> 1", "lifted(0) -> 7", "fits(1) -> 1", "plan(1) -> 0",
            "bounds(1, 1) -> 1", "fits(1) -> 0", "plan(1) -> NONE");
        Runs.of(part, "in all STATES that are told",
            "line(b0;b6;b12;w3=16;w9=16) -> 3", "bounds(5, 22) -> 1", "fits(1|2|4|8|15) -> 1", "rise(3, 6, 1) -> 0",
            "fits(1|2|3|4|5|6|7) -> 1", "fits(8|9|10|11|12|13|14|15) -> 0", "rise(0, 6, 1) -> 0", "fits(2|4|6) -> 1", "fits(1|3|5|7|8|15) -> 0");
    }

    private static void plans() {
        String part = "Part 3";
        Runs.of(part, "A PLAN: MOVES of BEARINGS (-2 .. 2 each,",
            "line(b0;b6;b12;" + INNER + ") -> 3", "bounds(5, 22) -> 1", "plan(1) -> 0", "move(1, 0|1|2) -> 0",
            "offset(1, 2) -> 0", "plan(1) -> 1", "move(1, 1) -> -2", "move(1, 0|2) -> 0",
            "offset(1, 3) -> 2", "plan(1) -> 2", "move(1, 0) -> 0", "move(1, 1) -> -2", "move(1, 2) -> 2",
            "offset(1, 4) -> 3", "plan(1) -> 3", "move(1, 0|2) -> 2", "move(1, 1) -> -2",
            "offset(1, 5) -> 4", "plan(1) -> NONE", "move(1, 0|1|2) -> NONE-100", "told(1, 1) -> 5");
        Runs.of(part, "A PLAN: MOVES of BEARINGS (-2 .. 2 each,",
            "line(b0;b6=-4;b12;" + OUTER + ") -> 3", "bounds(0, 25) -> 1", "plan(1) -> 3", "move(1, 0|2) -> -2", "move(1, 1) -> 2",
            "offset(1, -5) -> -4", "plan(1) -> NONE", "offset(1, -2) -> -5", "plan(1) -> 1", "move(1, 1) -> 2", "move(1, 0|2) -> 0");
        Runs.of(part, "OFFSETS within -50 .. 50",
            "line(b0=-48;b6=-48;b12=-48;" + INNER + ") -> 3", "bounds(5, 22) -> 1", "rise(0, 6, 2) -> 0",
            "plan(1) -> 1", "move(1, 1) -> -2", "offset(0|1|2, -49) -> -48", "plan(1) -> 2", "move(1, 0) -> 0", "move(1, 1) -> -1", "move(1, 2) -> 2",
            "offset(0|1|2, -50) -> -49", "plan(1) -> 2", "move(1, 0|2) -> 2", "move(1, 1) -> 0");
        Runs.of(part, "OFFSETS within -50 .. 50",
            "line(b0=48;b6=48;b12=48;" + OUTER + ") -> 3", "bounds(0, 25) -> 1", "rise(0, 6, -2) -> 0",
            "plan(1) -> 1", "move(1, 1) -> 2", "offset(0|1|2, 49) -> 48", "plan(1) -> 2", "move(1, 0) -> -2", "move(1, 1) -> 1", "move(1, 2) -> 0",
            "offset(0|1|2, 50) -> 49", "plan(1) -> 2", "move(1, 0|2) -> -2", "move(1, 1) -> 0");
        Runs.of(part, "by which it FITS in some STATES (bits)",
            "line(b0;b6;b12;w0=17;w3=16;w9=16;w12=17) -> 3", "bounds(22, 22) -> 1", "rise(3, 6, 2) -> 0", "rise(2, 6, -2) -> 0",
            "plan(1|2|3) -> 0", "plan(8) -> 1", "move(8, 1) -> -2", "plan(4) -> 1", "move(4, 1) -> 2", "plan(12|9|5|15) -> NONE",
            "bounds(0, 600) -> 1", "plan(15) -> 0");
    }

    private static void likeOnes() {
        String part = "Part 3";
        Runs.of(part, "those with the fewest BEARINGS moved",
            "line(b0;b6=2;b12;" + INNER + ") -> 3", "bounds(5, 22) -> 1", "plan(1) -> 1", "move(1, 0|2) -> 0", "move(1, 1) -> -2",
            "line(b0=1;b6=1;b12=1;" + INNER + ") -> 3", "plan(1) -> 0", "move(1, 0|1|2) -> 0");
        // four moves of 5 in all would do: it is as the fewest are sought first that three of 6 are the PLAN
        Runs.of(part, "those with the fewest BEARINGS moved",
            "line(b2=-1;b3=0;b6=-1;b11=-1;w2=36;w3=35;w6=32;w8=2;w11=43;f17) -> 4", "bounds(3, 42) -> 1", "fits(1) -> 0", "plan(1) -> 3",
            "move(1, 0|1) -> -2", "move(1, 2) -> 2", "move(1, 3) -> 0", "offset(0, -2)", "offset(1, -1)", "offset(2, 1)", "offset(3, -2)", "fits(1) -> 1",
            "offset(0, -3)", "offset(1, -2)", "offset(3, -1)", "fits(1) -> 1");
        Runs.of(part, "of like ones the least sum of their sizes",
            "line(b0;b6=1;b12;" + INNER + ") -> 3", "bounds(5, 22) -> 1", "plan(1) -> 1", "move(1, 1) -> -1", "move(1, 0|2) -> 0",
            "bounds(0, 22) -> 1", "plan(1) -> 1", "move(1, 1) -> -1", "offset(1, 3)", "plan(1) -> 2", "move(1, 0) -> 0", "move(1, 1) -> -2", "move(1, 2) -> 2");
        Runs.of(part, "of like ones the first by numbers (BEARING 0 first, the lesser MOVE first)",
            "line(b3=3;b4=1;b7=-2;b11=3;w7=34) -> 4", "bounds(0, 29) -> 1", "fits(1) -> 0", "offset(0, 4) -> 3", "fits(1) -> 1",
            "offset(0, 2) -> 4", "fits(1) -> 1", "offset(0, 3) -> 2", "plan(1) -> 1", "move(1, 0) -> -1", "move(1, 1|2|3) -> 0");
        Runs.of(part, "of like ones the first by numbers (BEARING 0 first",
            "line(b0;b6;b12;" + OUTER + ") -> 3", "bounds(0, 24) -> 1", "rise(0, 6, -1)", "plan(1) -> NONE", "bounds(0, 25) -> 1", "plan(1) -> 1",
            "move(1, 1) -> 1", "rise(0, 6, -3) -> -1", "plan(1) -> 2", "move(1, 0) -> -2", "move(1, 1) -> 2", "move(1, 2) -> 0");
    }

    private static void bounds() {
        String part = "Promise 20";
        Runs.of(part, "BOUNDS: 1",
            "line(b0;b12;w6=40) -> 2", "bounds(0, 0) -> 1", "fits(1) -> 0", "bounds(600, 600) -> 1", "fits(1) -> 0", "bounds(0, 600) -> 1", "fits(1) -> 1",
            "bounds(20, 20) -> 1", "fits(1) -> 1", "bounds(20, 600) -> 1", "fits(1) -> 1", "bounds(0, 20) -> 1", "fits(1) -> 1");
        Runs.of(part, "BAD: also LOW above HIGH",
            "rich", "bounds(-1|601|MIN|MAX, 600) -> BAD", "bounds(0, -1|601|MIN|MAX) -> BAD", "bounds(1, 0) -> BAD", "bounds(600, 599) -> BAD",
            "bounds(20, 19) -> BAD", "bounds(-1, -1) -> BAD", "bounds(601, 601) -> BAD", "bounds(-2, -1) -> BAD", "bounds(0, 0) -> 1", "bounds(1, 0) -> BAD",
            "bounds(600, 600) -> 1", "bounds(600, 0) -> BAD");
    }

    private static void fits() {
        String part = "Promise 21";
        Runs.of(part, "Whether THE SHAFT FITS in some STATES (bits): 1, 0 (also where it FALLS)",
            "fits(1|15) -> 0", "line(b6;w6=1) -> 1", "fits(1|15) -> 0", "bearing(5, 0) -> 0", "fits(1|2|4|8|15) -> 1", "weight(7, 1) -> 0", "fits(1|8|15) -> 0",
            "weight(7, 0) -> 1", "rise(2, 5, 20) -> 0", "bounds(0, 1) -> 1", "fits(4|15) -> 1", "bounds(1, 1) -> 1", "fits(4|15) -> 0",
            "new", "line(b0;b6=-10;b12;w3=2;w9=2;f9) -> 3", "bounds(1, 2) -> 1", "rise(1, 6, 20) -> 0", "fits(1) -> 0", "fits(2) -> 0");
        Runs.of(part, "BAD: also none",
            "fits(0|16) -> BAD", "rich", "fits(0|16|17|31|-1|-16|MIN|MAX) -> BAD", "fits(15) -> 0", "falling", "fits(0|16) -> BAD", "fits(1) -> 0");
    }

    private static void plan() {
        String part = "Promise 22";
        Runs.of(part, "How many BEARINGS a PLAN moves",
            "line(b0;b4;b8;b12) -> 4", "plan(1|15) -> 0", "line(b0;b6=4;b12;" + INNER + ") -> 3", "bounds(5, 22) -> 1", "plan(1|15) -> 3",
            "line(b0=1;b4;b8;b12=1;w2=9;w6=9;w10=9) -> 4", "bounds(0, 600) -> 1", "plan(15) -> 0", "told(0, 1) -> 1");
        Runs.of(part, "How many BEARINGS a PLAN moves",
            "line(b0=2;b4=-2;b8=2;b12=-2;w0=20;w4=20;w8=20;w12=20) -> 4", "bounds(20, 20) -> 1", "fits(1) -> 0", "plan(1) -> 4",
            "move(1, 0|2) -> -2", "move(1, 1|3) -> 2", "offset(0, 3) -> 2", "plan(1) -> NONE", "offset(0, 1) -> 3", "plan(1) -> 4", "move(1, 0) -> -1",
            "offset(0|2, 0)", "offset(1, 0)", "plan(1) -> 1", "move(1, 3) -> 2", "offset(3, 0) -> -2", "plan(1) -> 0");
        Runs.of(part, "BAD: also none",
            "plan(0|16) -> BAD", "rich", "plan(0|16|17|31|-1|-16|MIN|MAX) -> BAD", "bearing(0|12, 0)", "plan(0|16) -> BAD", "plan(1) -> NONE");
        Runs.of(part, "NONE: there is no PLAN, or more than 4 BEARINGS",
            "plan(1|15) -> NONE", "line(b6;w6=1) -> 1", "plan(1) -> NONE", "bearing(5, 0) -> 0", "plan(1) -> 0", "weight(7, 1) -> 0", "plan(1) -> NONE",
            "line(b0;b3;b6;b12) -> 4", "plan(1) -> 0", "bearing(9, 0) -> 3", "plan(1) -> NONE", "fits(1) -> 1", "bearing(10, 0) -> 4", "plan(1) -> NONE",
            "remove(4) -> 5", "plan(1) -> NONE", "remove(3) -> 4", "plan(1) -> 0", "bounds(0, 0) -> 1", "weight(6, 9) -> 0", "plan(1) -> NONE", "bounds(0, 9) -> 1",
            "plan(1) -> 0", "remove(2) -> 3", "plan(1) -> 0", "bounds(0, 8) -> 1", "plan(1) -> 0", "remove(1) -> 2", "plan(1) -> 0", "bounds(0, 4) -> 1", "plan(1) -> NONE");
        Runs.of(part, "NONE: there is no PLAN",
            "line(b0;b6=5;b12;" + INNER + ") -> 3", "bounds(5, 22) -> 1", "plan(1) -> NONE", "offset(1, 4) -> 5", "plan(1) -> 3",
            "bounds(0, 0) -> 1", "plan(1) -> NONE", "bounds(600, 600) -> 1", "plan(15) -> NONE");
    }

    private static void move() {
        String part = "Promise 23";
        Runs.of(part, "The MOVE of a BEARING by it",
            "line(b0;b6=4;b12;" + INNER + ") -> 3", "bounds(5, 22) -> 1", "move(1|15, 0|2) -> 2", "move(1|15, 1) -> -2", "told(0|2, 1) -> 0", "told(1, 1) -> 4",
            "offset(1, 1) -> 4", "move(1, 0|2) -> 0", "move(1, 1) -> -1", "rise(3, 6, 1) -> 0", "move(8, 1) -> -2", "move(1, 1) -> -1", "move(9, 1) -> -2",
            "rise(3, 6, 3) -> 1", "move(9, 0|2) -> 2", "move(9, 1) -> -2", "rise(3, 6, 4) -> 3",
            "move(9, 0|1|2) -> NONE-100", "move(1, 1) -> -1",
            "load(0, 1) -> 401/18", "move(8, 1) -> NONE-100", "load(0, 1) -> 401/18", "high(0, 6) -> 1");
        Runs.of(part, "BAD less 100 (-101)",
            "move(1, 0) -> -101", "rich", "move(0|16|17|-1|MIN|MAX, 0) -> BAD-100", "move(1|15, -1|3|6|MIN|MAX) -> BAD-100", "move(0, 3) -> -101",
            "bearing(0|12, 0)", "move(1, 5|-1) -> BAD-100", "move(0|16, 4) -> BAD-100", "move(1, 4) -> NONE-100");
        Runs.of(part, "NONE less 100 (-104)",
            "line(b6;w6=1) -> 1", "move(1, 0) -> -104", "line(b0;b6=5;b12;" + INNER + ") -> 3", "bounds(5, 22) -> 1", "move(1, 0|1|2) -> -104",
            "offset(1, 4) -> 5", "move(1, 1) -> -2", "line(b0;b3;b6;b9) -> 4", "bounds(0, 600) -> 1", "move(1, 3) -> 0", "bearing(10, 0) -> 4",
            "move(1|15, 0|3|4) -> NONE-100", "bearing(12, 0) -> 5", "move(1, 5) -> NONE-100");
    }
}
