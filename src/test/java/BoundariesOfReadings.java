/** READINGS, WEAR and WHIRL of part 3, and the promises 24 to 28. */
final class BoundariesOfReadings {
    private static final String EVERY_WEIGHT = "weight(0|1|2|3|4|5|6|7|8|9|10|11|12, 50)";
    private static final String THREE = "line(b0;b6;b12;w3=16;w9=16) -> 3";

    private BoundariesOfReadings() {
    }

    static void all() {
        readings();
        wear();
        whirls();
        reading();
        closes();
        mended();
        run();
        whirl();
    }

    private static void readings() {
        String part = "Part 3";
        Runs.of(part, "READINGS of LOADS (0 .. 600) of all BEARINGS",
            "line(b0;b12) -> 2", "told(0|1, 3) -> 0", "reading(0|1, 600) -> 0", "reading(0|1, -1|601|MIN|MAX) -> BAD", "reading(0|1, 0) -> 600",
            "told(0|1, 3) -> 0");
        Runs.of(part, "they CLOSE, if together they are all WEIGHTS, and their moments (times PLACE) those of WEIGHTS",
            THREE, "closes() -> 11", "reading(0|2, 16) -> 0", "closes() -> 1", "reading(0|2, 5) -> 16", "reading(1, 22) -> 0", "closes() -> 1",
            "reading(1, 21) -> 22", "closes() -> 11", "reading(1, 23) -> 21", "closes() -> 11", "reading(1, 22) -> 23",
            "reading(0, 6) -> 5", "reading(2, 4) -> 5", "closes() -> 0", "reading(0, 5) -> 6", "reading(1, 24) -> 22", "closes() -> 10",
            "reading(2, 5) -> 4", "reading(1, 22) -> 24", "weight(0, 1) -> 0", "closes() -> 10", "weight(0, 0) -> 1", "weight(12, 1) -> 0", "closes() -> 12",
            "weight(12, 0) -> 1", "weight(1, 1) -> 0", "closes() -> 0", "weight(1, 0) -> 1", "closes() -> 1");
        Runs.of(part, "A READING is WRONG, if another number in its place makes all CLOSE",
            THREE, "reading(0|2, 16) -> 0", "mended(0|1|2) -> NONE", "reading(0, 17) -> 16", "mended(0) -> 16", "mended(1|2) -> NONE", "closes() -> 10",
            "reading(0, 15) -> 17", "mended(0) -> 16", "reading(2, 15) -> 16", "closes() -> 11", "mended(1) -> 2", "mended(0|2) -> NONE",
            "reading(2, 14) -> 15", "closes() -> 0", "mended(0|1|2) -> NONE");
    }

    private static void wear() {
        String part = "Part 3";
        Runs.of(part, "each hour of a run() in STATE 0 adds its LOAD (cut)",
            "line(b0;b12;w6=41) -> 2", "run(1) -> 0", "told(0|1, 2) -> 20", "run(2) -> 0", "told(0|1, 2) -> 60", "rise(0, 0, 20)", "run(1) -> 0", "told(0|1, 2) -> 80",
            "line(b0;b6=-10;b12;w3=2;w9=2;f9) -> 3", "rise(0, 0, 0) -> 20", "rise(1|2|3, 6, -20) -> 0", "run(1000) -> 0", "told(0|2, 2) -> 1000", "told(1, 2) -> 0",
            "offset(1, -11) -> -10", "run(1000) -> 0", "told(0|2, 2) -> 3000");
        Runs.of(part, "for each full 10000 its OFFSET is 1 less",
            "line(b0;b12;w0=9;w12=10) -> 2", "run(999) -> 0", "told(0, 2) -> 8991", "told(1, 2) -> 9990", "told(0|1, 1) -> 0",
            "run(1) -> 1", "told(0, 2) -> 9000", "told(1, 2) -> 0", "told(0, 1) -> 0", "told(1, 1) -> -1", "run(111) -> 0", "told(0, 2) -> 9999",
            "told(0, 1) -> 0", "run(1) -> 1", "told(0, 2) -> 8", "told(0, 1) -> -1",
            "line(b0;b12;w0=20;w12=39) -> 2", "run(1000) -> 2", "told(0, 2) -> 0", "told(0, 1) -> -2", "told(1, 2) -> 9000", "told(1, 1) -> -3");
        Runs.of(part, "(never below -50)",
            "line(b0=-49;b12=-50;w0=10;w12=10) -> 2", "run(999) -> 0", "told(0|1, 2) -> 9990", "run(1) -> 1", "told(0|1, 1) -> -50",
            "run(1000) -> 0", "told(0|1, 1) -> -50", "line(b0=-48;b12=-49;w0=50;w12=50) -> 2", "run(1000) -> 2", "told(0|1, 1) -> -50");
        Runs.of(part, "(never below -50)",
            "bearing(6, 50) -> 0", "bearing(7, 0) -> 1", EVERY_WEIGHT, "run(1000) -> 1", "told(0, 1) -> -15", "told(0, 2) -> 0", "run(1000) -> 1",
            "told(0, 1) -> -50", "told(0, 2) -> 0", "run(1000) -> 0", "told(0, 1) -> -50", "told(1, 2) -> 0");
        Runs.of(part, "and WEAR 10000 less",
            "line(b0=-50;b12;w0=9;w12=9) -> 2", "run(1000) -> 0", "told(0|1, 2) -> 9000", "run(1000) -> 1", "told(0|1, 2) -> 8000",
            "told(0, 1) -> -50", "told(1, 1) -> -1", "line(b0=-50;b12;w0=29) -> 2", "run(1000) -> 0", "told(0, 2) -> 9000", "told(1, 2) -> 0");
        Runs.of(part, "(at the end of the run; LOADS as at its beginning)",
            "line(b0;b6;b12;w3=16;w9=16;f20) -> 3", "run(1000) -> 1", "told(1, 1) -> -2", "told(1, 2) -> 2000", "told(0|2, 2) -> 5000", "load(0, 1) -> 188/9",
            "run(1000) -> 3", "told(1, 2) -> 2000", "told(1, 1) -> -4", "told(0|2, 2) -> 0", "told(0|2, 1) -> -1");
    }

    private static void whirls() {
        String part = "Part 3";
        Runs.of(part, "y is the depth of each PLACE with a WEIGHT below 0, in thousandths, cut",
            "line(b0;b2;w1=1;f20) -> 2", "whirl() -> 125000", "line(b3;b5;w4=11;f18) -> 2", "whirl() -> 9900", "line(b3;b9;w0=1;f10) -> 2", "whirl() -> 370",
            "line(b0;b1;b3;b4;w2=1;f20) -> 4", "whirl() -> 333333",
            "line(b0;b6;w3=10;w10=1;f10) -> 2", "whirl() -> 226");
        // at 10 the depth is -66 2/3 thousandths: cut it is -66
        Runs.of("Terms", "Divisions are cut toward 0, where no fraction is told",
            "line(b0;b6;w3=6;w10=1;f10) -> 2", "whirl() -> 552", "line(b0;b6;w3=1;w10=1;f16) -> 2", "whirl() -> 321");
        Runs.of(part, "THE SHAFT going through all BEARINGS, these at 0",
            "line(b0=50;b12=-50;w6=10) -> 2", "whirl() -> 27", "rise(0|1|2|3, 0, 20) -> 0", "whirl() -> 27", "bearing(6, -50) -> 1", "whirl() -> 0",
            "line(b0;b1;w12=50) -> 2", "lifted(0) -> NOT", "whirl() -> 0", "stiffness(1) -> 10", "whirl() -> 0", "weight(12, 0) -> 50", "weight(2, 1) -> 0",
            "whirl() -> 1501");
        Runs.of(part, "(0, if the latter is 0)",
            "line(b0;b12) -> 2", "whirl() -> 0", "weight(0|12, 50) -> 0", "whirl() -> 0", "weight(1, 1) -> 0", "whirl() -> 2976");
    }

    private static void reading() {
        String part = "Promise 24";
        Runs.of(part, "A READING: what it was",
            "line(b0;b12) -> 2", "reading(0, 600) -> 0", "reading(0, 0) -> 600", "reading(0, 1) -> 0", "reading(1, 2) -> 0", "told(0, 3) -> 1", "told(1, 3) -> 2");
        Runs.of(part, "BAD",
            "reading(0, 0) -> BAD", "rich", "reading(-1|3|6|MIN|MAX, 0) -> BAD", "reading(0|2, -1|601|MIN|MAX) -> BAD", "reading(2, 600) -> 9", "reading(2, 0) -> 600");
    }

    private static void closes() {
        String part = "Promise 25";
        Runs.of(part, "Whether READINGS CLOSE (1), or which BEARING's is the first that is WRONG (10 and it), or 0",
            "line(b6) -> 1", "closes() -> 1", "reading(0, 1) -> 0", "closes() -> 10", "weight(6, 1) -> 0", "closes() -> 1", "weight(6, 2) -> 1", "closes() -> 10",
            "weight(6, 0) -> 2", "weight(5, 1) -> 0", "closes() -> 0", "line(b0;b2;b4;b6;b8;b10) -> 6", "closes() -> 1", "reading(0, 600) -> 0",
            "closes() -> 10", "reading(0, 0) -> 600", "reading(5, 1) -> 0", "closes() -> 15", "reading(0, 1) -> 0", "closes() -> 0",
            THREE, "reading(0|2, 20) -> 0", "closes() -> 11", "reading(0|2, 600) -> 20", "closes() -> 11", "reading(2, 599) -> 600", "closes() -> 0");
        Runs.of(part, "NONE: no BEARINGS",
            "closes() -> NONE", "bearing(0, 0) -> 0", "closes() -> 1", "remove(0) -> 0", "closes() -> NONE", "weight(0, 1) -> 0", "closes() -> NONE",
            "line(w0=1) -> 0", "closes() -> NONE");
    }

    private static void mended() {
        String part = "Promise 26";
        Runs.of(part, "What the READING of a BEARING must be, if it alone is WRONG",
            THREE, "reading(0, 5) -> 0", "reading(1, 600) -> 0", "reading(2, 5) -> 0", "mended(1) -> 22", "reading(1, 0) -> 600", "mended(1) -> 22",
            "line(b6;w6=50) -> 1", "mended(0) -> 50", "line(b0;b12;w0=1) -> 2", "mended(0) -> 1", "mended(1) -> NONE");
        Runs.of(part, "(0 .. 600 is not asked for.)",
            "bearing(6, 0) -> 0", EVERY_WEIGHT, "mended(0) -> 650", "closes() -> 10", "reading(0, 600) -> 0", "mended(0) -> 650",
            "line(b0;b6;b12;w3=16;w9=16) -> 3", "reading(0|2, 20) -> 0", "mended(1) -> -8", "closes() -> 11", "reading(0|2, 600) -> 20", "mended(1) -> -1168");
        Runs.of(part, "BAD",
            "mended(0) -> BAD", "rich", "mended(-1|3|6|MIN|MAX) -> BAD");
        Runs.of(part, "NONE: it is not WRONG, or all CLOSE",
            THREE, "mended(0|2) -> NONE", "reading(0|2, 16) -> 0", "mended(0|1|2) -> NONE", "reading(0, 0) -> 16", "mended(1|2) -> NONE", "mended(0) -> 16",
            "reading(2, 17) -> 16", "mended(0|1|2) -> NONE", "line(b6) -> 1", "mended(0) -> NONE", "weight(5, 1) -> 0", "mended(0) -> NONE");
    }

    private static void run() {
        String part = "Promise 27";
        Runs.of(part, "A run of hours (1 .. 1000): how many OFFSETS became less",
            "line(b0;b2;b4;b6;b8;b10;w0=10;w2=10;w4=10;w6=10;w8=10;w10=9) -> 6", "run(1) -> 0", "told(0, 2) -> 10", "run(998) -> 0", "run(1) -> 5",
            "told(5, 2) -> 9000", "offset(0|1|2|3|4, 0) -> -1", "run(1000) -> 6", "told(0, 2) -> 0", "told(5, 2) -> 8000",
            "line(b0=-50;b2=-50;w0=50;w2=50) -> 2", "run(1000) -> 0", "line(b0;b2) -> 2", "run(1000) -> 0", "told(0, 2) -> 0");
        Runs.of(part, "BAD",
            "run(0|1001) -> BAD", "rich", "run(0|1001|-1|MIN|MAX) -> BAD", "falling", "run(0|1001|MIN|MAX) -> BAD");
        Runs.of(part, "NOT: it FALLS",
            "run(1|1000) -> NOT", "falling", "run(1|1000) -> NOT", "weight(9, 0) -> 9", "run(1) -> 0", "rich", "remove(0) -> 2",
            "remove(0) -> 1", "run(1) -> NOT");
    }

    private static void whirl() {
        String part = "Promise 28";
        Runs.of(part, "WHIRL",
            "line(b0;b12;w6=10) -> 2", "whirl() -> 27", "stiffness(20) -> 10", "whirl() -> 55", "stiffness(1) -> 20", "whirl() -> 2",
            "weight(6, 50) -> 10", "whirl() -> 0", "weight(6, 1) -> 50", "whirl() -> 27");
        Runs.of(part, "NOT: fewer than two BEARINGS",
            "whirl() -> NOT", "line(b0;w6=1) -> 1", "whirl() -> NOT", "bearing(12, 0) -> 1", "whirl() -> 277", "remove(0) -> 1", "whirl() -> NOT",
            "rich", "remove(0) -> 2", "remove(0) -> 1", "whirl() -> NOT");
    }
}
