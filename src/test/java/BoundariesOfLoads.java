/** Part 2, and the promises 13 to 19. */
final class BoundariesOfLoads {
    private static final String ALL_WEIGHTS =
        ";w0=50;w1=50;w2=50;w3=50;w4=50;w5=50;w6=50;w7=50;w8=50;w9=50;w10=50;w11=50;w12=50";
    private static final String EVERY_WEIGHT = "weight(0|1|2|3|4|5|6|7|8|9|10|11|12, 50) -> 0";
    private static final String SIX = "b0;b1;b2;b3;b4;b5;f20";

    private BoundariesOfLoads() {
    }

    static void all() {
        tableAndJack();
        couplings();
        load();
        lifted();
        high();
        through();
        table();
        coupling();
        jack();
    }

    private static void tableAndJack() {
        String part = "Part 2";
        Runs.of(part, "how much the LOAD of a BEARING is more as another one (or itself) stands 1 higher",
            "line(b0;b1;b2) -> 3", "table(0, 0|2) -> 15", "table(0, 1) -> -30", "table(1, 0|2) -> -30", "table(1, 1) -> 60",
            "table(2, 0|2) -> 15", "table(2, 1) -> -30", "stiffness(20) -> 10", "table(1, 1) -> 120", "stiffness(1) -> 20", "table(1, 1) -> 6",
            "line(b0;b6;b12;f1) -> 3", "table(1, 1) -> 1/36", "table(0, 0|2) -> 1/144", "table(0, 1) -> -1/72");
        Runs.of(part, "THE SHAFT going through all BEARINGS (two or more)",
            "line(b0;w0=1) -> 1", "table(0, 0) -> NOT", "bearing(12, 0) -> 1", "table(0|1, 0|1) -> 0",
            "line(b0=50;b1=-50;b2;w12=50;f10) -> 3", "lifted(0) -> NOT", "through(0, 2) -> 2925", "table(0, 0) -> 15",
            "line(b0;b1;b3;b6;b10;b12;f19) -> 6", "table(0, 0) -> 20121/983", "table(0, 1) -> -64695/1966", "table(1, 0) -> -64695/1966",
            "table(1, 1) -> 220077/3932", "table(0, 5) -> -171/983", "table(5, 0) -> -171/983", "table(3, 3) -> 244853/31456",
            "table(3, 4) -> -174591/31456", "table(5, 4) -> -68799/15728", "table(5, 5) -> 20805/7864");
        Runs.of(part, "A JACK at a PLACE without a BEARING",
            "line(b6;w5=1;w6=9) -> 1", "jack(0, 5, 0) -> 1", "jack(0, 6, 0) -> BAD", "bearing(5, 0) -> 0", "jack(0, 5, 0) -> BAD",
            "remove(0) -> 1", "jack(0, 5, 0) -> 1", "count(0) -> 1");
        Runs.of(part, "as high as told (no RISE)",
            "line(b0;b12;w3=16;w9=16) -> 2", "jack(0, 6, 0) -> 22", "rise(0, 6, 20) -> 0", "jack(0, 6, 0) -> 22",
            "rise(0, 0|12, 20) -> 0", "jack(0, 6, 20) -> 22", "jack(1, 6, 0) -> 22",
            "load(1, 0) -> 16", "jack(1, 6, 0) -> 22", "load(1, 0) -> 16", "lifted(1) -> 0", "high(1, 6) -> -396/5");
        Runs.of(part, "is one BEARING more (numbered by PLACES with the others): its LOAD AT REST",
            "new", "jack(0, 6, 0) -> NOT", "line(b6;w3=3) -> 1", "jack(0, 0, -90) -> 3/2", "line(b6;w9=3) -> 1", "jack(0, 12, 0|90) -> 3/2",
            "jack(0, 5, 0) -> NOT", "line(" + SIX + ALL_WEIGHTS + ") -> 6", "jack(0, 6, -90|0|90) -> 650", "jack(0, 7, -90) -> 14125/28",
            "jack(0, 7, 90) -> 3900/7", "jack(0, 12, 0) -> 19925/119", "jack(0, 12, 90) -> 1276675/7154", "jack(0, 11, -90) -> 105925/552",
            "count(0) -> 6", "lifted(0) -> NOT",
            "line(b0;b2;b4;b6;b8;b10;f20" + ALL_WEIGHTS + ") -> 6", "jack(0, 1, -1) -> 0", "jack(0, 1, 0) -> 17750/481", "jack(0, 1, 1) -> 28115/174",
            "jack(0, 5, 1) -> 398260/2283", "jack(0, 9, 90) -> 114025/294");
    }

    private static void couplings() {
        String part = "Part 2";
        Runs.of(part, "what is left of it (WEIGHTS and BEARINGS at PLACES below x), and right of it (x and above)",
            "line(b0;b4;b8;b12=4;w2=30;w10=30) -> 4", "coupling(0, 4, 0) -> NOT", "coupling(0, 5, 0) -> -3", "coupling(0, 8, 0) -> 12",
            "coupling(0, 9, 0) -> NOT", "coupling(0, 5|6|7|8, 1) -> 50",
            "line(b0;b1;b11;b12;w6=3;f1) -> 4", "coupling(0, 6, 0) -> 150", "coupling(0, 6, 1) -> -425",
            "coupling(0, 7, 0) -> -385/2", "coupling(0, 7, 1) -> -425");
        Runs.of(part, "each goes through all of its BEARINGS (two or more each)",
            "line(b0;b1=1;b2;b3=1) -> 4", "coupling(0, 2, 0) -> 2", "coupling(0, 2, 1) -> 0", "coupling(0, 0|1|3|4|12, 0|1) -> NOT",
            "line(b9;b10=-1;b11;b12=-1) -> 4", "coupling(0, 11, 0) -> -2", "coupling(0, 11, 1) -> 0", "coupling(0, 0|9|10|12, 0|1) -> NOT",
            "line(b0;b6;b12) -> 3", "coupling(0, 0|1|2|3|4|5|6|7|8|9|10|11|12, 0) -> NOT",
            "line(b0;b4;b8;b12) -> 4", "remove(3) -> 3", "coupling(0, 6, 0) -> NOT", "bearing(12, 0) -> 3", "coupling(0, 6, 0|1) -> 0");
        Runs.of(part, "SAG: the height of the left one's end at x less that of the right one's at x",
            "line(b0;b4;b8=3;b12=3) -> 4", "coupling(0, 6, 0) -> -3", "coupling(0, 6, 1) -> 0", "coupling(0, 8, 0) -> -3",
            "line(b0=50;b1=-50;b11=-50;b12=50;f1" + ALL_WEIGHTS + ") -> 4", "rise(0, 0|12, 20) -> 0", "rise(0, 1|11, -20) -> 0",
            "coupling(0, 6, 0) -> 2500", "coupling(0, 6, 1) -> -84650/3", "offset(2, 50)", "offset(3, -50)",
            "rise(0, 11, 20)", "rise(0, 12, -20)", "coupling(0, 6, 0) -> 960", "coupling(0, 6, 1) -> -76250/3");
        Runs.of(part, "GAP: the slope of the left one there less that of the right one, times 10",
            "line(b0;b4;b8;b12;w3=7;w9=7) -> 4", "coupling(0, 6, 0) -> 0", "coupling(0, 6, 1) -> 49/4",
            "line(b0;b4=2;b8;b12=2) -> 4", "coupling(0, 6, 1) -> 0", "line(b0;b4;b8=4;b12) -> 4", "coupling(0, 6, 1) -> 10",
            "line(b0;b4;b8;b12=4) -> 4", "coupling(0, 6, 1) -> -10");
    }

    private static void load() {
        String part = "Promise 13";
        Runs.of(part, "LOAD of a BEARING AT REST in a STATE, a fraction",
            "line(b0;b6=-10;b12;w3=2;w9=2;f9) -> 3", "load(0, 0|2) -> 15/8", "load(0, 1) -> 1/4", "rise(3, 6, -1) -> 0", "load(3, 1) -> 0",
            "load(3, 0|2) -> 2", "load(0|1|2, 1) -> 1/4", "load(0, 1, 0) -> 1", "load(0, 1, 1) -> 4", "load(3, 1, 0) -> 0", "load(3, 1, 1) -> 1",
            "line(b6;b7" + ALL_WEIGHTS + ") -> 2", "load(0, 0) -> 650", "load(0, 1) -> 0",
            "line(b0;b1;b3;b6;b10;b12;f20" + ALL_WEIGHTS + ") -> 6", "load(0, 0) -> 86375/1966", "load(0, 5) -> 393675/7864");
        Runs.of(part, "BAD",
            "load(0, 0) -> BAD", "rich", "load(-1|4|MIN|MAX, 0) -> BAD", "load(0, -1|3|6|MIN|MAX) -> BAD", "load(0|3, 0|2, -1|2|MIN|MAX) -> BAD",
            "falling", "load(4, 0) -> BAD", "load(0, 2) -> BAD", "load(0, 0, 2) -> BAD");
        Runs.of(part, "NOT: it FALLS",
            "falling", "load(0|1|2|3, 0|1) -> NOT", "weight(9, 0) -> 9", "load(0, 0|1) -> 1",
            "new", "line(b0=-50;b12;w12=1) -> 2", "load(0, 0) -> 0", "load(0, 1) -> 1", "remove(0) -> 1", "load(0, 0) -> NOT");
    }

    private static void lifted() {
        String part = "Promise 14";
        Runs.of(part, "BEARINGS that are LIFTED AT REST in a STATE, as bits",
            "line(b0;b1;b2;b3;b4;b5) -> 6", "lifted(0|3) -> 63", "weight(5, 1) -> 0", "lifted(0) -> 31", "weight(0, 1) -> 0", "lifted(0) -> 30",
            "weight(1|2|3|4, 1) -> 0", "lifted(0) -> 0", "rise(3, 5, -20) -> 0", "lifted(3) -> 40", "lifted(0|1|2) -> 0",
            "line(b0;b6=-10;b12;w3=2;w9=2;f9) -> 3", "lifted(0) -> 0", "offset(1, -11) -> -10", "lifted(0) -> 2");
        Runs.of(part, "BAD",
            "lifted(-1|4) -> BAD", "rich", "lifted(-1|4|MIN|MAX) -> BAD", "falling", "lifted(-1|4|MIN|MAX) -> BAD");
        Runs.of(part, "NOT: it FALLS",
            "lifted(0|1|2|3) -> NOT", "falling", "lifted(0|3) -> NOT", "weight(9, 0) -> 9", "lifted(0) -> 0", "weight(6, 1) -> 0", "lifted(0) -> 0",
            "weight(7, 3) -> 0", "lifted(0) -> NOT", "weight(7, 2) -> 3", "lifted(0) -> 1", "remove(0) -> 1", "lifted(0) -> NOT");
    }

    private static void high() {
        String part = "Promise 15";
        Runs.of(part, "The height of THE SHAFT at a PLACE AT REST in a STATE, a fraction",
            "line(b0=50;b12=-50;f1" + ALL_WEIGHTS + ") -> 2", "rise(3, 0, 20) -> 0", "rise(3, 12, -20) -> 0",
            "high(0, 0) -> 50", "high(0, 12) -> -50", "high(3, 0) -> 70", "high(3, 12) -> -70", "high(0|3, 6) -> -13425", "high(0, 1) -> -6975/2",
            "line(b0;b12;w6=5;f10) -> 2", "high(0, 6) -> -18", "high(0, 5|7) -> -415/24");
        Runs.of(part, "BAD",
            "high(4, 0) -> BAD", "rich", "high(-1|4|MIN|MAX, 0) -> BAD", "high(0, -1|13|MIN|MAX) -> BAD", "high(0|3, 0|12, -1|2|MIN|MAX) -> BAD",
            "falling", "high(4, 0) -> BAD", "high(0, 13) -> BAD", "high(0, 12, 2) -> BAD");
        Runs.of(part, "NOT",
            "high(0|3, 0|12) -> NOT", "falling", "high(0|3, 0|4|12) -> NOT", "new", "line(b4) -> 1", "high(0, 4) -> NOT", "bearing(5, 1) -> 1",
            "high(0, 4) -> 0", "high(0, 0) -> -4", "high(0, 12) -> 8");
    }

    private static void through() {
        String part = "Promise 16";
        Runs.of(part, "LOAD of a BEARING, THE SHAFT going through all BEARINGS, in a STATE, a fraction",
            "line(b0;b1;w12=50) -> 2", "through(0, 0) -> -550", "through(0, 1) -> 600", "lifted(0) -> NOT",
            "line(b0=50;b1=-50;b2=50;b3=-50;b4=50;b5=-50;f20) -> 6", EVERY_WEIGHT, "rise(0, 0|2|4, 20) -> 0", "rise(0, 1|3|5, -20) -> 0",
            "through(0, 0) -> 2562650/209", "through(0, 1) -> -8280350/209", "through(0, 2) -> 12106450/209",
            "through(0, 3) -> -11993150/209", "through(0, 4) -> 7839250/209", "through(0, 5) -> -2099000/209",
            "line(b0=50;b1=-50;b3=50;b6=-50;b10=50;b12=-50;f19) -> 6", EVERY_WEIGHT,
            "through(1, 0) -> 7015675/1966", "through(1, 3) -> -23326275/15728", "through(3, 5) -> -4019075/7864");
        Runs.of(part, "BAD",
            "through(0, 0) -> BAD", "rich", "through(-1|4|MIN|MAX, 0) -> BAD", "through(0, -1|3|6|MIN|MAX) -> BAD",
            "through(0|3, 0|2, -1|2|MIN|MAX) -> BAD", "new", "bearing(4, 0) -> 0", "through(4, 0) -> BAD", "through(0, 1) -> BAD",
            "through(0, 0, 2) -> BAD");
        Runs.of(part, "NOT: fewer than two",
            "line(b4;w4=9) -> 1", "through(0|3, 0) -> NOT", "bearing(3, 0) -> 0", "through(0, 0) -> 0", "through(0, 1) -> 9",
            "remove(1) -> 1", "through(0, 0) -> NOT");
    }

    private static void table() {
        String part = "Promise 17";
        Runs.of(part, "THE TABLE: of BEARING a as b stands higher, a fraction",
            "line(b0;b4;b12;w4=50) -> 3", "table(0, 0) -> 5/32", "table(0, 1) -> -15/64", "table(1, 0) -> -15/64",
            "table(1, 1) -> 45/128", "table(2, 1) -> -15/128", "table(0, 2) -> 5/64", "table(2, 2) -> 5/128",
            "offset(0, 50)", "rise(0, 4, 20)", "weight(12, 50)", "table(1, 1) -> 45/128", "table(1, 1, 0) -> 45", "table(1, 1, 1) -> 128");
        Runs.of(part, "BAD",
            "table(0, 0) -> BAD", "rich", "table(-1|3|6|MIN|MAX, 0) -> BAD", "table(0, -1|3|6|MIN|MAX) -> BAD", "table(0|2, 0|2, -1|2|MIN|MAX) -> BAD",
            "new", "bearing(4, 0) -> 0", "table(1, 0) -> BAD", "table(0, 1) -> BAD", "table(0, 0, 2) -> BAD");
        Runs.of(part, "NOT: fewer than two",
            "line(b4) -> 1", "table(0, 0) -> NOT", "bearing(3, 0) -> 0", "table(0|1, 0|1) -> 0", "remove(0) -> 1", "table(0, 0) -> NOT");
    }

    private static void coupling() {
        String part = "Promise 18";
        Runs.of(part, "SAG (0), GAP (1) at a COUPLING in a STATE, a fraction",
            "line(b0;b4;b8;b12;w2=1) -> 4", "coupling(0, 6, 0) -> 1/5", "coupling(0, 6, 1) -> 1", "rise(3, 12, 20) -> 0", "rise(3, 0, -20) -> 0",
            "coupling(3, 6, 0) -> 101/5", "coupling(3, 6, 1) -> 1", "coupling(0, 6, 0, 0) -> 1", "coupling(0, 6, 0, 1) -> 5");
        Runs.of(part, "BAD",
            "rich", "bearing(10, 0) -> 3", "coupling(-1|4|MIN|MAX, 6, 0) -> BAD", "coupling(0, -1|13|MIN|MAX, 0) -> BAD",
            "coupling(0, 6, -1|2|MIN|MAX) -> BAD", "coupling(0|3, 6, 0|1, -1|2|MIN|MAX) -> BAD",
            "new", "coupling(4, 6, 0) -> BAD", "coupling(0, 13, 0) -> BAD", "coupling(0, 6, 2) -> BAD", "coupling(0, 6, 0, 2) -> BAD");
        Runs.of(part, "NOT: a part has fewer than two BEARINGS",
            "coupling(0|3, 0|6|12, 0|1) -> NOT", "rich", "coupling(0, 5|6|9, 0|1) -> NOT", "bearing(0, 0) -> 0", "coupling(0, 0|1|6|12, 0) -> NOT",
            "bearing(12, 0) -> 4", "coupling(0, 10, 0) -> NOT", "remove(3) -> 4", "coupling(0, 6, 0) -> NOT");
    }

    private static void jack() {
        String part = "Promise 19";
        Runs.of(part, "LOAD of a JACK at a PLACE, so high (-90 .. 90), in a STATE, a fraction",
            "line(b0;b12;w3=16;w9=16) -> 2", "jack(0, 6, -90|-80) -> 0", "jack(0, 6, -79) -> 1/18", "jack(0, 6, 36|90) -> 32",
            "jack(0, 6, 35) -> 571/18", "jack(0, 6, -91|91|MIN|MAX) -> BAD",
            "line(b0=50;b12=50;w3=16;w9=16) -> 2", "rise(3, 0|12, 20) -> 0", "jack(3, 6, 70) -> 22", "jack(3, 6, 90) -> 248/9",
            "line(b0=-50;b12=-50;w3=16;w9=16) -> 2", "rise(3, 0|12, -20) -> 20", "jack(3, 6, -70) -> 22", "jack(3, 6, -90) -> 148/9");
        Runs.of(part, "BAD: also a PLACE with a BEARING",
            "rich", "jack(0|3, 1|5|9, 0) -> BAD", "jack(-1|4|MIN|MAX, 6, 0) -> BAD", "jack(0, -1|13|MIN|MAX, 0) -> BAD",
            "jack(0, 6, -91|91|MIN|MAX) -> BAD", "jack(0|3, 6, -90|90, -1|2|MIN|MAX) -> BAD",
            "falling", "jack(0, 4|6, 0) -> BAD", "jack(4, 5, 0) -> BAD", "jack(0, 5, 91) -> BAD", "jack(0, 5, 0, 2) -> BAD");
        Runs.of(part, "NOT: it FALLS",
            "jack(0|3, 0|12, -90|0|90) -> NOT", "falling", "jack(0, 0|5, 0) -> NOT", "jack(0, 8, 90) -> NOT", "jack(0, 9, -90) -> 25/3", "jack(0, 9, 90) -> 47/5",
            "weight(9, 0) -> 9", "jack(0, 8, 0) -> 0");
    }
}
