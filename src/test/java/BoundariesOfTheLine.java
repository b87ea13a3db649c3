/** Part 1 but for texts and sheets, and the promises 1 to 7, 11 and 12. */
final class BoundariesOfTheLine {
    private static final String ALL_WEIGHTS =
        ";w0=50;w1=50;w2=50;w3=50;w4=50;w5=50;w6=50;w7=50;w8=50;w9=50;w10=50;w11=50;w12=50";

    private BoundariesOfTheLine() {
    }

    static void all() {
        ranges();
        theShaft();
        atRest();
        newObject();
        bearing();
        remove();
        offset();
        weight();
        stiffness();
        rise();
        told();
        count();
    }

    private static void ranges() {
        String part = "Part 1";
        Runs.of(part, "THE SHAFT is at PLACES 0 .. 12",
            "bearing(0, 0) -> 0", "bearing(12, 0) -> 1", "bearing(-1|13|MIN|MAX, 0) -> BAD",
            "weight(0, 1) -> 0", "weight(12, 1) -> 0", "weight(-1|13|MIN|MAX, 1) -> BAD",
            "rise(0, 0|12, 3) -> 0", "rise(0, -1|13|MIN|MAX, 3) -> BAD-100",
            "high(0, 0|12) -> 3", "high(0, -1|13|MIN|MAX) -> BAD",
            "coupling(0, 0|12, 0) -> NOT", "coupling(0, -1|13|MIN|MAX, 0) -> BAD",
            "remove(1) -> 1", "remove(0) -> 0", "bearing(6, 0) -> 0",
            "jack(0, 0|12, 0) -> 0", "jack(0, -1|13|MIN|MAX, 0) -> BAD");
        Runs.of(part, "of one STIFFNESS F (1 .. 20; 10 at first)",
            "count(2) -> 10", "stiffness(1) -> 10", "stiffness(20) -> 1", "stiffness(0|21|MIN|MAX) -> BAD", "count(2) -> 20",
            "line(f0) -> FAULT 1", "line(f21) -> FAULT 1", "line(f1) -> 0", "count(2) -> 1", "line(f20) -> 0", "count(2) -> 20");
        Runs.of(part, "BEARINGS 0 .. 5 are at PLACES",
            "told(0, 0) -> BAD-100000", "line(b0;b2;b4;b6;b8;b10) -> 6", "told(5, 0) -> 10", "told(6|-1, 0) -> BAD-100000",
            "bearing(12, 0) -> FULL", "count(0) -> 6");
        Runs.of(part, "numbered by these (one at a PLACE at most)",
            "bearing(12, 1) -> 0", "bearing(0, 2) -> 0", "bearing(6, 3) -> 1",
            "told(0, 0) -> 0", "told(1, 0) -> 6", "told(2, 0) -> 12",
            "told(0, 1) -> 2", "told(1, 1) -> 3", "told(2, 1) -> 1",
            "bearing(0|6|12, 4) -> NOT", "line(b5;b5) -> FAULT 4", "count(0) -> 3");
        Runs.of(part, "each with an OFFSET (-50 .. 50: how high it stands)",
            "bearing(0, -50) -> 0", "bearing(12, 50) -> 1", "bearing(6, -51|51|MIN|MAX) -> BAD",
            "offset(0, 50) -> -50", "offset(1, -50) -> 50", "offset(0, -51|51|MIN|MAX) -> BAD-100",
            "high(0, 0) -> 50", "high(0, 12) -> -50",
            "line(b0=51) -> FAULT 3", "line(b0=-51) -> FAULT 4", "line(b0=50;b12=-50) -> 2", "high(0, 0) -> 50");
        Runs.of(part, "WEIGHTS (0 .. 50 in all at a PLACE; 0 at first) pull it down",
            "weight(5, 50) -> 0", "weight(5, 51|-1|MIN|MAX) -> BAD", "weight(5, 50) -> 50", "count(1) -> 50",
            "weight(5, 0) -> 50", "weight(5, 0) -> 0", "count(1|3) -> 0",
            "line(b0;b12;w6=50) -> 2", "high(0, 6) -> -180", "weight(6, 1) -> 50", "high(0, 6) -> -18/5",
            "weight(6, 0) -> 1", "high(0, 6) -> 0");
        Runs.of(part, "STATES 0 .. 3 have a RISE (-20 .. 20; 0 at first) of each PLACE",
            "rise(0|1|2|3, 0|1|2|3|4|5|6|7|8|9|10|11|12, 0) -> 0",
            "rise(0|3, 0|12, -20) -> 0", "rise(0|3, 0|12, 20) -> -20", "rise(0|3, 0|12, -21|21|MIN|MAX) -> BAD-100",
            "rise(-1|4|MIN|MAX, 0, 0) -> BAD-100", "rise(1|2, 0|12, 0) -> 0", "rise(0|3, 0|12, 0) -> 20");
        Runs.of(part, "a BEARING stands at OFFSET and the RISE of its PLACE, in the STATE that is asked",
            "line(b0=50;b12=-50) -> 2", "rise(0, 0, 20)", "rise(0, 12, -20)", "rise(3, 0, -20)", "rise(3, 12, 20)", "rise(2, 1, 20)",
            "high(0, 0) -> 70", "high(0, 12) -> -70", "high(3, 0) -> 30", "high(3, 12) -> -30",
            "high(1|2, 0) -> 50", "high(1|2, 12) -> -50", "high(2, 1) -> 125/3");
    }

    private static void theShaft() {
        String part = "Part 1";
        Runs.of(part, "THE SHAFT bends by its STIFFNESS as thin beams do",
            "line(b0;b12;f1" + ALL_WEIGHTS + ") -> 2", "load(0, 0|1) -> 325", "high(0, 6) -> -13425", "high(0, 1) -> -21175/6",
            "stiffness(20) -> 1", "high(0, 6) -> -2685/4", "high(0, 1) -> -4235/24", "load(0, 0|1) -> 325",
            "line(b0;b1;w12=50;f1) -> 2", "through(0, 0) -> -550", "through(0, 1) -> 600", "lifted(0) -> NOT");
        Runs.of(part, "it has no weight of its own, both ends are free",
            "line(b6;b7=1) -> 2", "load(0, 0|1) -> 0", "high(0, 0) -> -6", "high(0, 12) -> 6",
            "line(b3;b9;w6=20;f10) -> 2", "high(0, 0|12) -> 27/2",
            "line(b0;b12) -> 2", "high(0, 6) -> 0");
        Runs.of(part, "Through all of some BEARINGS (two or more) it goes just one way",
            "through(0, 0) -> BAD", "line(b6=3;w6=9) -> 1", "through(0, 0) -> NOT", "bearing(7, 3) -> 1",
            "through(0, 0) -> 9", "through(0, 1) -> 0",
            "line(b0;b1;b2;b3;b4;b5;w0=6;w1=5;w2=4;w3=3;w4=2;w5=1) -> 6",
            "through(0, 0) -> 6", "through(0, 1) -> 5", "through(0, 2) -> 4", "through(0, 3) -> 3", "through(0, 4) -> 2", "through(0, 5) -> 1");
        Runs.of(part, "at each of these it is as high as that stands, each gives a LOAD (up; below 0: it would have to hold down)",
            "line(b4;b6;w6=9) -> 2", "through(0, 0) -> 0", "through(0, 1) -> 9",
            "weight(7, 2) -> 0", "through(0, 0) -> -1", "through(0, 1) -> 12",
            "line(b0;b6=36;b12;w3=16;w9=16) -> 3", "high(0, 0|12) -> 0", "high(0, 6) -> 36", "through(0, 0|2) -> 0",
            "offset(1, 37) -> 36", "through(0, 0|2) -> -5/36");
    }

    private static void atRest() {
        String part = "Part 1";
        Runs.of(part, "two or more BEARINGS",
            "lifted(0) -> NOT", "line(b6;w6=9) -> 1", "lifted(0) -> NOT", "load(0, 0) -> NOT", "high(0, 6) -> NOT",
            "bearing(5, -50) -> 0", "lifted(0) -> 1", "load(0, 1) -> 9");
        Runs.of(part, "sets of fewer ahead",
            "line(b0;b6;b12) -> 3", "lifted(0) -> 7", "high(0, 12) -> 0",
            "line(b0=-5;b6;b12=-3;w6=10) -> 3", "lifted(0) -> 5", "high(0, 0) -> -5", "high(0, 12) -> 5",
            "line(b0;b6;b12;w3=16;w9=16) -> 3", "lifted(0) -> 0", "load(0, 0|2) -> 5", "load(0, 1) -> 22");
        Runs.of(part, "of like many the one with the least BEARING that is not in both",
            "line(b0;b6=5;b12) -> 3", "high(0, 0) -> 0", "high(0, 6) -> 5", "high(0, 12) -> 10",
            "offset(1, -1) -> 5", "high(0, 0|6|12) -> 0",
            "line(b0;b4=3;b8=4;b12=1) -> 4", "high(0, 0) -> 0", "high(0, 4) -> 3", "high(0, 8) -> 6", "high(0, 12) -> 9",
            "offset(2, 7) -> 4", "high(0, 4) -> 7/2", "high(0, 12) -> 21/2",
            "line(b0=-5;b6;b12=-3;w3=10) -> 3", "high(0, 0) -> -5", "load(0, 0|1) -> 5", "load(0, 2) -> 0");
        Runs.of(part, "all LOADS are 0 or more",
            "line(b0;b6=35;b12;w3=16;w9=16) -> 3", "lifted(0) -> 0", "load(0, 0|2) -> 5/36", "load(0, 1) -> 571/18",
            "offset(1, 36) -> 35", "lifted(0) -> 5", "load(0, 0|2) -> 0", "load(0, 1) -> 32", "high(0, 12) -> 0",
            "offset(1, 37) -> 36", "lifted(0) -> 5", "load(0, 1) -> 32", "high(0, 0) -> 0", "high(0, 12) -> 2",
            "line(b4;b6;w3=2;w5=2) -> 2", "load(0, 0) -> 4", "load(0, 1) -> 0",
            "weight(3, 3) -> 2", "load(0, 0|1) -> NOT", "weight(3, 1) -> 3", "load(0, 1) -> 1/2");
        Runs.of(part, "it is at no other BEARING's PLACE lower than that one stands",
            "line(b0;b6=-10;b12;w3=2;w9=2;f9) -> 3", "load(0, 1) -> 1/4", "load(0, 0|2) -> 15/8", "high(0, 6) -> -10",
            "offset(1, -11) -> -10", "load(0, 1) -> 0", "load(0, 0|2) -> 2", "high(0, 6) -> -11",
            "offset(1, -12) -> -11", "load(0, 1) -> 0", "load(0, 0|2) -> 2", "high(0, 6) -> -11");
        Runs.of(part, "Others have the LOAD 0",
            "line(b0;b6=-12;b12;w3=2;w9=2;f9) -> 3", "load(0, 1) -> 0", "through(0, 1) -> -1/4",
            "line(b0;b3;b9;b12;w6=4) -> 4", "load(0, 0|3) -> 0", "load(0, 1|2) -> 2", "through(0, 0|3) -> -3/4");
        Runs.of(part, "If there is no such set, it FALLS",
            "line(b4;b6;w6=9) -> 2", "lifted(0) -> 1", "weight(7, 1) -> 0", "lifted(0) -> NOT",
            "load(0, 0|1) -> NOT", "high(0, 0|6|12) -> NOT", "jack(0, 0|5, 0) -> NOT", "jack(0, 7, 0) -> 1",
            "fits(1) -> 0", "plan(1) -> NONE", "run(1) -> NOT", "weight(7, 0) -> 1", "weight(4, 9) -> 0", "lifted(0) -> 0",
            "weight(6, 0) -> 9", "weight(3, 1) -> 0", "lifted(0) -> NOT", "bearing(3, -50) -> 0", "lifted(0) -> 4", "load(0, 0) -> 1",
            "new", "weight(6, 1)", "lifted(0) -> NOT", "weight(6, 0)", "lifted(0) -> NOT");
        Runs.of(part, "LIFTED are BEARINGS of which the LOAD is 0",
            "line(b4;b6;w4=1) -> 2", "lifted(0) -> 2", "load(0, 1) -> 0", "weight(5, 1) -> 0", "lifted(0) -> 0", "load(0, 1) -> 1/2",
            "line(b0;b6=-10;b12;w3=2;w9=2;f9) -> 3", "lifted(0) -> 0", "offset(1, -11) -> -10", "lifted(0) -> 2",
            "line(b0;b6=36;b12;w3=16;w9=16;f10) -> 3", "lifted(0) -> 5", "offset(1, 35) -> 36", "lifted(0) -> 0",
            "line(b0;b1;b2;b3;b4;b5) -> 6", "lifted(0) -> 63", "weight(0, 1) -> 0", "lifted(0) -> 62",
            "weight(5, 1) -> 0", "lifted(0) -> 30");
    }

    private static void newObject() {
        String part = "Promise 1";
        Runs.of(part, "No BEARINGS, no WEIGHTS",
            "count(0) -> 0", "count(1) -> 0", "count(3) -> 0", "weight(0|1|2|3|4|5|6|7|8|9|10|11|12, 0) -> 0",
            "told(0|1|2|3|4|5, 0) -> BAD-100000", "remove(0) -> BAD", "offset(0, 0) -> BAD-100", "load(0, 0) -> BAD",
            "through(0, 0) -> BAD", "table(0, 0) -> BAD", "lifted(0) -> NOT", "high(0, 0) -> NOT", "coupling(0, 6, 0) -> NOT",
            "jack(0, 6, 0) -> NOT", "fits(1) -> 0", "plan(1) -> NONE", "move(1, 0) -> BAD-100", "reading(0, 0) -> BAD",
            "closes() -> NONE", "mended(0) -> BAD", "run(1) -> NOT", "whirl() -> NOT", "read() -> FAULT 0");
    }

    private static void bearing() {
        String part = "Promise 2";
        Runs.of(part, "A BEARING at a PLACE: its number (others' go on by PLACES)",
            "bearing(12, 50) -> 0", "bearing(0, -50) -> 0", "reading(0, 7)", "reading(1, 9)", "bearing(6, 0) -> 1", "bearing(5, 1) -> 1",
            "bearing(7, 2) -> 3", "bearing(11, 3) -> 4", "told(0, 0) -> 0", "told(1, 0) -> 5", "told(2, 0) -> 6", "told(3, 0) -> 7",
            "told(4, 0) -> 11", "told(5, 0) -> 12", "told(5, 1) -> 50", "told(5, 3) -> 9", "told(0, 1) -> -50", "told(0, 3) -> 7",
            "told(1|2|3|4, 3) -> 0");
        Runs.of(part, "BAD",
            "rich", "bearing(-1|13|MIN|MAX, 0) -> BAD", "bearing(3, -51|51|MIN|MAX) -> BAD", "bearing(0, -50) -> 0", "bearing(12, 50) -> 4",
            "count(0) -> 5");
        Runs.of(part, "NOT: there is one",
            "rich", "bearing(1|5|9, 0) -> NOT", "bearing(2, 0) -> 1", "bearing(2, 0) -> NOT", "bearing(2, 51) -> BAD",
            "remove(1) -> 3", "bearing(2, -7) -> 1", "told(1, 1) -> -7");
        Runs.of(part, "FULL: 6",
            "rich", "bearing(0, 0) -> 0", "bearing(2, 0) -> 2", "bearing(12, 0) -> 5", "count(0) -> 6",
            "bearing(3, 0) -> FULL", "bearing(11, 50) -> FULL", "bearing(2, 0) -> NOT", "bearing(13, 0) -> BAD", "bearing(3, 51) -> BAD",
            "remove(5) -> 5", "bearing(3, 0) -> 3", "bearing(12, 0) -> FULL");
        Runs.of(part, "WEAR of it is 0",
            "line(b0;b12;w0=9;w12=7) -> 2", "run(1000) -> 0", "told(0, 2) -> 9000", "told(1, 2) -> 7000",
            "bearing(6, 0) -> 1", "told(0, 2) -> 9000", "told(1, 2) -> 0", "told(2, 2) -> 7000",
            "remove(0) -> 2", "bearing(0, 0) -> 0", "told(0, 2) -> 0", "told(1, 2) -> 0", "told(2, 2) -> 7000",
            "remove(2) -> 2", "bearing(12, 0) -> 2", "told(2, 2) -> 0");
    }

    private static void remove() {
        String part = "Promise 3";
        Runs.of(part, "A BEARING goes: how many are left",
            "line(b0=1;b2=2;b4=3;b6=4;b8=5;b10=6) -> 6", "remove(5) -> 5", "told(4, 0) -> 8", "told(5, 0) -> BAD-100000",
            "remove(0) -> 4", "told(0, 0) -> 2", "told(3, 1) -> 5", "remove(1) -> 3", "told(0, 0) -> 2", "told(1, 0) -> 6", "told(2, 0) -> 8",
            "remove(2) -> 2", "remove(1) -> 1", "told(0, 1) -> 2", "remove(0) -> 0", "remove(0) -> BAD", "count(0) -> 0",
            "closes() -> NONE", "bearing(2, 0) -> 0");
        Runs.of(part, "BAD",
            "remove(0) -> BAD", "rich", "remove(-1|3|6|MIN|MAX) -> BAD", "remove(2) -> 2", "remove(2) -> BAD", "remove(0) -> 1",
            "remove(1) -> BAD", "remove(0) -> 0", "remove(0) -> BAD");
    }

    private static void offset() {
        String part = "Promise 4";
        Runs.of(part, "An OFFSET: what it was",
            "line(b0;b12=-3) -> 2", "offset(0, 50) -> 0", "offset(0, -50) -> 50", "offset(0, 0) -> -50", "offset(1, 0) -> -3",
            "offset(1, 1) -> 0", "told(0, 1) -> 0", "told(1, 1) -> 1");
        Runs.of(part, "BAD less 100 (-101)",
            "offset(0, 0) -> -101", "rich", "offset(-1|3|6|MIN|MAX, 0) -> BAD-100", "offset(0|2, -51|51|MIN|MAX) -> BAD-100",
            "offset(3, 51) -> -101", "offset(2, 50)", "offset(2, -50) -> 50");
    }

    private static void weight() {
        String part = "Promise 5";
        Runs.of(part, "A WEIGHT at a PLACE: what it was",
            "weight(0|12, 50) -> 0", "weight(0|12, 0) -> 50", "weight(0|12, 1) -> 0", "weight(0, 1) -> 1", "count(1) -> 2", "count(3) -> 2",
            "new", "weight(0|1|2|3|4|5|6|7|8|9|10|11|12, 50) -> 0", "count(1) -> 650", "count(3) -> 13");
        Runs.of(part, "BAD",
            "rich", "weight(-1|13|MIN|MAX, 1) -> BAD", "weight(0|3|12, -1|51|MIN|MAX) -> BAD", "weight(3, 50) -> 20", "weight(3, 0) -> 50");
    }

    private static void stiffness() {
        String part = "Promise 6";
        Runs.of(part, "STIFFNESS: what it was",
            "stiffness(1) -> 10", "stiffness(20) -> 1", "stiffness(20) -> 20", "stiffness(2) -> 20", "count(2) -> 2");
        Runs.of(part, "BAD",
            "rich", "stiffness(0|21|-1|MIN|MAX) -> BAD", "stiffness(20) -> 13", "stiffness(1) -> 20");
    }

    private static void rise() {
        String part = "Promise 7";
        Runs.of(part, "A RISE of a PLACE in a STATE: what it was",
            "rise(0, 0, 20) -> 0", "rise(0, 0, -20) -> 20", "rise(0, 0, 0) -> -20", "rise(3, 12, -20) -> 0", "rise(3, 12, 20) -> -20",
            "rise(3, 0, 1) -> 0", "rise(0, 12, 2) -> 0", "rise(3, 0, 0) -> 1", "rise(0, 12, 0) -> 2", "rise(3, 12, 0) -> 20");
        Runs.of(part, "BAD less 100 (-101)",
            "rich", "rise(-1|4|MIN|MAX, 0, 0) -> -101", "rise(0, -1|13|MIN|MAX, 0) -> BAD-100", "rise(0|3, 0|12, -21|21|MIN|MAX) -> BAD-100",
            "rise(4, 0, 1) -> BAD-100", "rise(-1, 12, 1) -> BAD-100", "rise(3, 13, 1) -> BAD-100", "rise(3, 0, 20) -> 20");
    }

    private static void told() {
        String part = "Promise 11";
        Runs.of(part, "Of a BEARING: 0 PLACE, 1 OFFSET, 2 WEAR, 3 READING",
            "line(b0=-50;b12=50;w0=9;w6=1) -> 2", "run(999) -> 0", "reading(0, 600)", "reading(1, 1)",
            "told(0, 0) -> 0", "told(0, 1) -> -50", "told(0, 2) -> 8991", "told(0, 3) -> 600",
            "told(1, 0) -> 12", "told(1, 1) -> 50", "told(1, 2) -> 0", "told(1, 3) -> 1");
        Runs.of(part, "BAD less 100000 (-100001)",
            "told(0, 0|1|2|3) -> -100001", "rich", "told(-1|3|6|MIN|MAX, 0|1|2|3) -> BAD-100000", "told(0|2, -1|4|MIN|MAX) -> BAD-100000",
            "told(3, 4) -> -100001", "told(2, 0) -> 9", "told(2, 3) -> 9");
    }

    private static void count() {
        String part = "Promise 12";
        Runs.of(part, "How many: 0 BEARINGS, 1 all WEIGHTS together, 2 STIFFNESS, 3 PLACES with WEIGHTS",
            "count(0|1|3) -> 0", "count(2) -> 10", "line(b0;b1;b2;b3;b4;b5;f1" + ALL_WEIGHTS + ") -> 6",
            "count(0) -> 6", "count(1) -> 650", "count(2) -> 1", "count(3) -> 13",
            "weight(0|12, 0) -> 50", "count(1) -> 550", "count(3) -> 11", "weight(0, 1) -> 0", "count(1) -> 551", "count(3) -> 12");
        Runs.of(part, "BAD",
            "rich", "count(-1|4|MIN|MAX) -> BAD", "count(3) -> 4", "count(0) -> 3", "new", "count(-1|4) -> BAD");
    }
}
