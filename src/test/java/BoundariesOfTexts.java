/** Texts of part 1, and the promises 9 and 10. */
final class BoundariesOfTexts {
    private static final String SIX = "b0;b1;b2;b3;b4;b5";
    private static final String THIRTEEN =
        "w0=1;w1=2;w2=3;w3=4;w4=5;w5=6;w6=7;w7=8;w8=9;w9=10;w10=11;w11=12;w12=50";
    private static final String TWENTY_STIFFNESSES =
        "f1;f1;f1;f1;f1;f1;f1;f1;f1;f1;f1;f1;f1;f1;f1;f1;f1;f1;f1;f20";
    /** Blanks by 8, so that they can be put together. */
    private static final String[] TAPE_OF_BLANKS = new String[15];

    private BoundariesOfTexts() {
    }

    static void all() {
        for (int k = 0; k < TAPE_OF_BLANKS.length; k++) {
            TAPE_OF_BLANKS[k] = "type('        ', 8) -> " + 8 * (k + 1);
        }
        clauses();
        faults();
        numbers();
        tooMany();
        type();
        typeFull();
        read();
    }

    /** So many rows of 8 blanks, and others behind them. */
    private static String[] blanksAnd(int eights, String... rows) {
        String[] all = new String[eights + rows.length];
        System.arraycopy(TAPE_OF_BLANKS, 0, all, 0, eights);
        System.arraycopy(rows, 0, all, eights, rows.length);
        return all;
    }

    private static void clauses() {
        String part = "Part 1";
        Runs.of(part, "As TEXT: 1 to 20 CLAUSES with ; between",
            "rich", "read()", "read() -> FAULT 0", "line( ) -> FAULT 1", "line(b0) -> 1", "line(w0=1) -> 0", "line(f1) -> 0",
            "line(;) -> FAULT 0", "line(b0;) -> FAULT 3", "line(;b0) -> FAULT 0", "line(b0;;b1) -> FAULT 3", "line(b0 b1) -> FAULT 3",
            "line(b0,b1) -> FAULT 2", "line(b0:b1) -> FAULT 2", "line(b0;b1) -> 2");
        Runs.of(part, "1 to 20 CLAUSES",
            "line(" + SIX + ";" + THIRTEEN + ";f1) -> 6", "count(0) -> 6", "count(1) -> 128", "count(2) -> 1", "count(3) -> 13",
            "line(" + TWENTY_STIFFNESSES + ") -> 0", "count(2) -> 20",
            "line(f2;" + TWENTY_STIFFNESSES + ") -> FAULT " + (3 + TWENTY_STIFFNESSES.lastIndexOf(';')), "count(2) -> 20");
        Runs.of(part, "b PLACE (a BEARING; perhaps = OFFSET, perhaps - ahead of it, 0 without)",
            "line(b0;b12) -> 2", "told(0, 0) -> 0", "told(1, 0) -> 12", "told(0|1, 1) -> 0",
            "line(b0=-50;b6=50;b12=0) -> 3", "told(0, 1) -> -50", "told(1, 1) -> 50", "told(2, 1) -> 0",
            "line(b1=-0) -> 1", "told(0, 1) -> 0", "line(b1=-1) -> 1", "told(0, 1) -> -1",
            "line(b) -> FAULT 1", "line(b;) -> FAULT 1", "line(b=1) -> FAULT 1", "line(b-1) -> FAULT 1", "line(b13) -> FAULT 1",
            "line(b0=) -> FAULT 3", "line(b0=;) -> FAULT 3", "line(b0=-) -> FAULT 4", "line(b0=--1) -> FAULT 4", "line(b0=+1) -> FAULT 3",
            "line(b0-1) -> FAULT 2", "line(b0==1) -> FAULT 3", "line(b0=1=1) -> FAULT 4", "line(b0=1-1) -> FAULT 4",
            "line(b0=51) -> FAULT 3", "line(b0=-51) -> FAULT 4");
        Runs.of(part, "w PLACE = WEIGHT (1 .. 50)",
            "line(w0=1;w12=50) -> 0", "weight(0, 0) -> 1", "weight(12, 0) -> 50", "weight(1|11, 0) -> 0",
            "line(w) -> FAULT 1", "line(w0) -> FAULT 2", "line(w0;) -> FAULT 2", "line(w=1) -> FAULT 1", "line(w-1=1) -> FAULT 1",
            "line(w0=) -> FAULT 3", "line(w0=-1) -> FAULT 3", "line(w0=0) -> FAULT 3", "line(w0=51) -> FAULT 3",
            "line(w0=1=) -> FAULT 4", "line(w13=1) -> FAULT 1", "line(w12=1) -> 0");
        Runs.of(part, "f STIFFNESS",
            "line(f1) -> 0", "count(2) -> 1", "line(f20) -> 0", "count(2) -> 20", "line(f0) -> FAULT 1", "line(f21) -> FAULT 1",
            "line(f) -> FAULT 1", "line(f;) -> FAULT 1", "line(f=1) -> FAULT 1", "line(f-1) -> FAULT 1", "line(f1=1) -> FAULT 2",
            "line(f1f) -> FAULT 2", "count(2) -> 20");
    }

    private static void faults() {
        String part = "Part 1";
        Runs.of(part, "FAULTS: -20 less the place of the first byte (behind blanks) that can't stand there",
            "line(x) -> FAULT 0", "line(~) -> FAULT 0", "line(B0) -> FAULT 0", "line(0) -> FAULT 0", "line(=) -> FAULT 0", "line(-) -> FAULT 0",
            "line(  x) -> FAULT 2", "line(bx) -> FAULT 1", "line(b  x) -> FAULT 3", "line(b0x) -> FAULT 2", "line(b0  x) -> FAULT 4",
            "line(b0=x) -> FAULT 3", "line(b0=  x) -> FAULT 5", "line(b0=-  x) -> FAULT 6", "line(b0=5x) -> FAULT 4",
            "line(b0=5  x) -> FAULT 6", "line(b0;x) -> FAULT 3", "line(b0;  x) -> FAULT 5", "line(wx) -> FAULT 1", "line(w0x) -> FAULT 2",
            "line(w0=x) -> FAULT 3", "line(w0=5x) -> FAULT 4", "line(fx) -> FAULT 1", "line(f1x) -> FAULT 2",
            "line(b13;x) -> FAULT 1", "line(x;b13) -> FAULT 0");
        Runs.of(part, "(the end: how many bytes there are)",
            "rich", "read()", "read() -> FAULT 0", "line( ) -> FAULT 1", "line(        ) -> FAULT 8", "line(b) -> FAULT 1", "line(b  ) -> FAULT 3",
            "line(b0=) -> FAULT 3", "line(b0= ) -> FAULT 4", "line(b0=-  ) -> FAULT 6", "line(b0;) -> FAULT 3", "line(b0; ) -> FAULT 4",
            "line(w) -> FAULT 1", "line(w0) -> FAULT 2", "line(w0 ) -> FAULT 3", "line(w0=) -> FAULT 3", "line(w0= ) -> FAULT 4",
            "line(f) -> FAULT 1", "line(f ) -> FAULT 2");
        Runs.of(part, "the end: how many bytes there are", blanksAnd(15, "read() -> FAULT 120"));
        Runs.of(part, "the end: how many bytes there are", blanksAnd(14, "type('       b', 8) -> 120", "read() -> FAULT 120"));
        Runs.of(part, "the place of the first byte (behind blanks)", blanksAnd(14, "type('       x', 8) -> 120", "read() -> FAULT 119"));
        Runs.of(part, "bytes 32 count for nothing, but do not stand in a number",
            "line(  b  0  =  -  50  ;  w  12  =  7  ;  f  20  ) -> 1", "told(0, 1) -> -50", "count(1) -> 7", "count(2) -> 20",
            "line(b1 2) -> FAULT 3", "line(b1  2) -> FAULT 4", "line(b0 0) -> FAULT 3", "line(b1=5 0) -> FAULT 5", "line(b1=-5 0) -> FAULT 6",
            "line(w1 2=1) -> FAULT 3", "line(w1=5 0) -> FAULT 5", "line(f2 0) -> FAULT 3", "line(b1 =5) -> 1", "told(0, 1) -> 5",
            "line(b12 ) -> 1", "told(0, 0) -> 12");
    }

    private static void numbers() {
        String part = "Part 1";
        Runs.of(part, "of a number that is not as it may be",
            "rich", "read()", "line(b13) -> FAULT 1", "line(b  13) -> FAULT 3", "line(b99=99) -> FAULT 1", "line(b100) -> FAULT 1",
            "line(b0=51) -> FAULT 3", "line(b0=-51) -> FAULT 4", "line(b0=-  51) -> FAULT 6", "line(b0=500) -> FAULT 3",
            "line(w13=1) -> FAULT 1", "line(w0=0) -> FAULT 3", "line(w0=51) -> FAULT 3", "line(w0=  51) -> FAULT 5", "line(w0=500) -> FAULT 3",
            "line(f0) -> FAULT 1", "line(f21) -> FAULT 1", "line(f  21) -> FAULT 3", "line(f200) -> FAULT 1");
        Runs.of(part, "of a number that is not as it may be",
            "rich", "read()", "line(b4294967296) -> FAULT 1", "line(b18446744073709551616) -> FAULT 1", "line(b0=4294967296) -> FAULT 3",
            "line(b0=-4294967296) -> FAULT 4", "line(b0=18446744073709551617) -> FAULT 3",
            "line(w4294967297=1) -> FAULT 1", "line(w0=4294967297) -> FAULT 3", "line(w0=18446744073709551617) -> FAULT 3",
            "line(f4294967297) -> FAULT 1", "line(f18446744073709551617) -> FAULT 1", "line(b2147483648) -> FAULT 1",
            "line(b10000000000000000000000000000000000000000000000000000000000000000000) -> FAULT 1");
        Runs.of(part, "(also a PLACE that has a BEARING, that has a WEIGHT, already in the TEXT) its first byte",
            "line(b0;b0) -> FAULT 4", "line(b0;b  0=1) -> FAULT 6", "line(b0;b12;b12) -> FAULT 8", "line(b0;b0=51) -> FAULT 4",
            "line(w0=1;w0=1) -> FAULT 6", "line(w12=1;w  12=2) -> FAULT 9", "line(w0=1;w0) -> FAULT 6", "line(w0=1;w0=51) -> FAULT 6",
            "line(b5;w5=1) -> 1", "line(w5=1;b5) -> 1", "line(b5=2;w5=3) -> 1", "told(0, 1) -> 2", "weight(5, 3) -> 3",
            "line(b1;b11;b10;w1=1;w11=1) -> 3");
    }

    private static void tooMany() {
        String part = "Part 1";
        Runs.of(part, "a seventh BEARING's letter",
            "line(" + SIX + ") -> 6", "line(" + SIX + ";b6) -> FAULT 18", "line(" + SIX + ";b5) -> FAULT 18", "line(" + SIX + ";  b13) -> FAULT 20",
            "line(" + SIX + ";b) -> FAULT 18", "line(" + SIX + ";w0=1) -> 6", "line(" + SIX + ";x) -> FAULT 18",
            "line(b7;b8;b9;b10;b11;b12;f1) -> 6");
        Runs.of(part, "a 21st CLAUSE's ; can't",
            "line(" + TWENTY_STIFFNESSES + ") -> 0", "line(" + TWENTY_STIFFNESSES + "  ) -> 0",
            "line(" + TWENTY_STIFFNESSES + ";) -> FAULT " + TWENTY_STIFFNESSES.length(),
            "line(" + TWENTY_STIFFNESSES + ";f1) -> FAULT " + TWENTY_STIFFNESSES.length(),
            "line(" + TWENTY_STIFFNESSES + "  ;b0) -> FAULT " + (TWENTY_STIFFNESSES.length() + 2),
            "line(" + TWENTY_STIFFNESSES + "x) -> FAULT " + TWENTY_STIFFNESSES.length());
        Runs.of(part, "a 21st CLAUSE's ; can't",
            "line(" + SIX + ";" + THIRTEEN + ";f1;) -> FAULT " + (SIX.length() + THIRTEEN.length() + 4),
            "line(" + SIX + ";" + THIRTEEN + ";b6) -> FAULT " + (SIX.length() + THIRTEEN.length() + 2),
            "line(" + SIX + ";" + THIRTEEN + ";f0) -> FAULT " + (SIX.length() + THIRTEEN.length() + 3));
    }

    private static void type() {
        String part = "Promise 9";
        Runs.of(part, "The n lowest bytes (1 .. 8) of w, of these the highest first, come behind THE TAPE: how many it has",
            "type('b', 1) -> 1", "type('7', 1) -> 2", "read() -> 1", "told(0, 0) -> 7",
            "type('b12=-50;', 8) -> 8", "type('b1', 2) -> 10", "type('1', 1) -> 11", "read() -> 2", "told(0, 0) -> 11", "told(1, 1) -> -50",
            "type('b12=-50;', 7) -> 7", "read() -> FAULT 0", "type('b12=-5b8', 2) -> 2", "read() -> 1", "told(0, 0) -> 8",
            "type(0xFF00001F7F6235, 2) -> 2", "read() -> 1", "told(0, 0) -> 5", "type(0x8080808080806236, 2) -> 2", "read() -> 1", "told(0, 0) -> 6",
            "type(0x8000000000000020, 1) -> 1", "type(0x7E7E7E7E7E7E7E7E, 8) -> 9", "type(0x2020202020202020, 8) -> 17", "read() -> FAULT 1");
        Runs.of(part, "BAD: n, a byte not 32 .. 126",
            "rich", "type('bbbbbbbb', 0|9|-1|MIN|MAX) -> BAD", "type(32, 1) -> 16", "type(126, 1) -> 17", "type(31|127|0|128|160|255|10, 1) -> BAD",
            "type(-1, 1|8) -> BAD", "type(288, 1) -> 18", "type(382, 1) -> 19",
            "type(0x621F, 2) -> BAD", "type(0x1F62, 2) -> BAD", "type(0x627F, 2) -> BAD", "type(0x7F62, 2) -> BAD", "type(0x62E2, 2) -> BAD");
        Runs.of(part, "a byte not 32 .. 126",
            "type(0x7F20202020202020, 8) -> BAD", "type(0x1F20202020202020, 8) -> BAD", "type(0xA020202020202020, 8) -> BAD",
            "type(0x20202020202020FF, 8) -> BAD", "type(0x2020202080202020, 8) -> BAD", "type(0, 1|8) -> BAD", "type(0x20, 2) -> BAD",
            "type(0x7F20202020202020, 7) -> 7", "type(0x207E, 2) -> 9", "type(0x8000000000000000, 8|1) -> BAD");
    }

    private static void typeFull() {
        String part = "Promise 9";
        Runs.of(part, "FULL: 120", blanksAnd(15, "type('b', 1) -> FULL", "type('bbbbbbbb', 8) -> FULL", "type('b', 9|0) -> BAD", "type(31, 1) -> BAD",
            "read() -> FAULT 120", "type('b0', 2) -> 2", "read() -> 1"));
        Runs.of(part, "FULL: 120", blanksAnd(14, "type('       ', 7) -> 119", "type('b0', 2) -> FULL", "type('b', 1) -> 120", "type('0', 1) -> FULL",
            "read() -> FAULT 120"));
        Runs.of(part, "FULL: 120", blanksAnd(14, "type('f', 1) -> 113", "type('20000000', 8) -> FULL", "type(' 20    ', 7) -> 120", "type(' ', 1) -> FULL",
            "type(127, 1) -> BAD", "read() -> 0", "count(2) -> 20", "type(' ', 1) -> 1"));
    }

    private static void read() {
        String part = "Promise 10";
        Runs.of(part, "THE TAPE, which is empty then, is the line",
            "rich", "read() -> 2", "told(0, 0) -> 2", "told(0, 1) -> 0", "told(1, 0) -> 4", "told(1, 1) -> 7", "told(0|1, 2|3) -> 0",
            "count(1) -> 9", "count(2) -> 4", "count(3) -> 1", "read() -> FAULT 0", "type('b0', 2) -> 2", "read() -> 1",
            "type(' ', 1) -> 1");
        Runs.of(part, "THE TAPE, which is empty then, is the line", blanksAnd(14, "type('b7;w3=50', 8) -> 120", "read() -> 1", "told(0, 0) -> 7",
            "weight(3, 0) -> 50", "read() -> FAULT 0", "type(' ', 1) -> 1"));
        Runs.of(part, "(all BEARINGS, WEIGHTS that were go, WEAR, too; STIFFNESS stays, if it is not told)",
            "rich", "told(0, 2) -> 6000", "told(1, 2) -> 8000", "read()", "line(b1=3;b5=-2;b9=4) -> 3", "told(0|1|2, 2) -> 0", "count(1|3) -> 0",
            "weight(0|3|7|12, 0) -> 0", "count(2) -> 4", "line(w6=1) -> 0", "told(0, 0) -> BAD-100000", "count(0) -> 0", "count(1) -> 1",
            "line(f7) -> 0", "count(0|1|3) -> 0", "count(2) -> 7", "line(b3) -> 1", "count(2) -> 7", "new", "line(b3) -> 1", "count(2) -> 10");
        Runs.of(part, "how many BEARINGS",
            "line(w0=1) -> 0", "line(b0) -> 1", "line(" + SIX + ") -> 6", "line(f1) -> 0");
        Runs.of(part, "a FAULT (the line stays)",
            "rich", "read()", "line(b0=1;w0=50;f20;x) -> FAULT 15", "line(b0;) -> FAULT 3", "read() -> FAULT 0", "line(b0;b1;b2;b3;b4;b5;b6) -> FAULT 18",
            "line(w0=1;w0=1) -> FAULT 6", "line(f20;f21) -> FAULT 5", "count(0) -> 2", "count(1) -> 9", "count(2) -> 4");
        Runs.of(part, "a FAULT (the line stays)",
            "line(b0;b12;w0=9;w12=7;f3) -> 2", "run(1000) -> 0", "reading(0, 600)", "line(b0;b12;w0=9;w12=7;f3;b12) -> FAULT 22",
            "told(0, 2) -> 9000", "told(0, 3) -> 600", "line(f4;) -> FAULT 3", "count(2) -> 3");
    }
}
