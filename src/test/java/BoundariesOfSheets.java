/** SHEETS of part 1, and the promises 8 and 29 to 32. */
final class BoundariesOfSheets {
    /** A row of 13 ints: -20, 20 and what no RISE may be at its ends. */
    private static final String[] INTS = {
        "sheet(0, 2, 13) -> 13", "item(0, 2, 0, -21) -> 1", "item(0, 2, 1, -20) -> 1", "item(0, 2, 2, 5) -> 1", "item(0, 2, 11, 20) -> 1",
        "item(0, 2, 12, 21) -> 1"};

    private BoundariesOfSheets() {
    }

    static void all() {
        sheets();
        rises();
        risesRefused();
        sheet();
        drop();
        item();
        itemRefused();
        copy();
        copyRefused();
    }

    private static String[] intsAnd(String... rows) {
        String[] all = new String[INTS.length + rows.length];
        System.arraycopy(INTS, 0, all, 0, INTS.length);
        System.arraycopy(rows, 0, all, INTS.length, rows.length);
        return all;
    }

    private static void sheets() {
        String part = "Part 1";
        Runs.of(part, "SHEETS 0 .. 3 hold nothing (at first)",
            "drop(0|1|2|3) -> NULL", "item(0|1|2|3, 0|1|2, 0, 0) -> NULL", "rises(0, 0|1|2|3, 0|1|2, 0, 0) -> NULL", "copy(0|3, 0, 0|3, 0, 0) -> NULL",
            "drop(-1|4) -> BAD", "sheet(0|3, 0, 0) -> 0", "drop(0|3) -> 0", "drop(0|1|2|3) -> NULL");
        Runs.of(part, "or a row of a LANE: 0 bytes, 1 shorts, 2 ints",
            "sheet(0, -1|3, 1) -> BAD", "sheet(0, 0, 1) -> 1", "sheet(1, 1, 1) -> 1", "sheet(2, 2, 1) -> 1", "item(0, 0, 0, 276) -> 1", "item(1, 1, 0, 65556) -> 1",
            "rises(0, 0, 0, 0, 1) -> 1", "rise(0, 0, 0) -> 20", "rises(0, 1, 1, 0, 1) -> 1", "rise(0, 0, 0) -> 20", "item(1, 1, 0, 276) -> 1",
            "rises(0, 1, 1, 0, 1) -> NOT", "item(2, 2, 0, 65556) -> 1", "rises(0, 2, 2, 0, 1) -> NOT", "item(2, 2, 0, 20) -> 1", "rises(0, 2, 2, 0, 1) -> 1");
        Runs.of(part, "of 0 to 13 items (0 at first)",
            "sheet(0, 2, 14) -> BAD", "drop(0) -> NULL", "sheet(0, 2, 0) -> 0", "item(0, 2, 0, 1) -> INDEX", "rises(0, 0, 2, 0, 0) -> 0", "drop(0) -> 0",
            "rise(0, 0|1|2|3|4|5|6|7|8|9|10|11|12, 7) -> 0", "sheet(0, 2, 13) -> 13", "rises(0, 0, 2, 0, 13) -> 13",
            "rise(0, 0|1|2|3|4|5|6|7|8|9|10|11|12, 7) -> 0", "item(0, 2, 0|12, 9) -> 1", "sheet(0, 2, 13) -> 13", "rises(0, 0, 2, 0, 13) -> 13",
            "rise(0, 0|1|2|3|4|5|6|7|8|9|10|11|12, 0) -> 0", "item(0, 2, 0|12, 9) -> 1", "drop(0) -> 13", "sheet(0, 0, 13) -> 13", "rises(0, 0, 0, 0, 13) -> 13",
            "rise(0, 0|12, 0) -> 0");
    }

    private static void rises() {
        String part = "Promise 8";
        Runs.of(part, "n RISES (0 .. 13) from a SHEET, taken as a row of a LANE, from item i on, are those of PLACES from 0 on in a STATE: n", intsAnd(
            "item(0, 2, 0|12, 4) -> 1", "rise(3, 0|1|2|3|4|5|6|7|8|9|10|11|12, 1) -> 0", "rises(3, 0, 2, 0, 0) -> 0", "rise(3, 0|1|12, 1) -> 1",
            "rises(3, 0, 2, 12, 1) -> 1", "rise(3, 0, 2) -> 4", "rise(3, 1|12, 1) -> 1", "rises(3, 0, 2, 1, 12) -> 12",
            "rise(3, 0, 1) -> -20", "rise(3, 1, 1) -> 5", "rise(3, 10, 1) -> 20", "rise(3, 11, 1) -> 4", "rise(3, 12, 1) -> 1",
            "rises(3, 0, 2, 0, 13) -> 13", "rise(3, 0, 1) -> 4", "rise(3, 1, 1) -> -20", "rise(3, 11, 1) -> 20", "rise(3, 12, 1) -> 4",
            "rises(3, 0, 2, 13, 0) -> 0", "rise(3, 0|12, 1) -> 1", "rise(0|1|2, 0|1|12, 0) -> 0", "rises(0, 0, 2, 1, 1) -> 1", "rise(0, 0, 0) -> -20"));
        Runs.of(part, "n RISES (0 .. 13)",
            "line(b0;b12) -> 2", "high(0, 12) -> 0", "sheet(0, 0, 13) -> 13", "item(0, 0, 12, 20) -> 1", "rises(0, 0, 0, 0, 12) -> 12", "high(0, 12) -> 0",
            "rises(0, 0, 0, 0, 13) -> 13", "high(0, 12) -> 20", "high(1, 12) -> 0", "rises(0, 0, 0, 0, 14|-1) -> BAD", "high(0, 12) -> 20");
    }

    private static void risesRefused() {
        String part = "Promise 8";
        Runs.of(part, "BAD",
            "rises(4, 0, 0, 0, 0) -> BAD", "rich", "rises(-1|4|MIN|MAX, 0, 0, 0, 1) -> BAD", "rises(0, -1|4|MIN|MAX, 0, 0, 1) -> BAD",
            "rises(0, 0, -1|3|MIN|MAX, 0, 1) -> BAD", "rises(0, 0|1, 0|1, 0, -1|14|MIN|MAX) -> BAD");
        Runs.of(part, "NULL",
            "rises(0, 0, 0, 0, 0) -> NULL", "rich", "rises(0|3, 3, 0|1|2, 0, 0|1|13) -> NULL", "drop(0) -> 5", "rises(0, 0, 0, 0, 1) -> NULL");
        Runs.of(part, "CAST",
            "rich", "rises(0|3, 0, 1|2, 0, 0|1|5) -> CAST", "rises(0, 1, 0|2, 0, 1) -> CAST", "rises(0, 2, 0|1, 0, 0) -> CAST",
            "sheet(0, 1, 5) -> 5", "rises(0, 0, 0, 0, 1) -> CAST", "rises(0, 0, 1, 0, 5) -> 5");
        Runs.of(part, "INDEX",
            "rich", "rises(0|3, 0, 0, -1|5|MIN|MAX, 1) -> INDEX", "rises(0, 0, 0, 0, 6|13) -> INDEX", "rises(0, 0, 0, 1, 5) -> INDEX", "rises(0, 0, 0, 4, 2) -> INDEX",
            "rises(0, 0, 0, MAX|MIN, 13) -> INDEX", "rises(0, 2, 2, 0, 1) -> INDEX", "rises(0, 1, 1, 13, 1) -> INDEX", "rises(0, 1, 1, 12, 2) -> INDEX",
            "rises(0, 1, 1, -1, 13) -> INDEX", "rises(0, 0, 0, 4, 1) -> 1", "rises(0, 0, 0, 0, 5) -> 5", "rises(0, 1, 1, 12, 1) -> 1");
        Runs.of(part, "NOT: one is beyond -20 .. 20", intsAnd(
            "rises(0|3, 0, 2, 0, 1|2|13) -> NOT", "rises(0, 0, 2, 12, 1) -> NOT", "rises(0, 0, 2, 11, 2) -> NOT", "rises(0, 0, 2, 1, 12) -> NOT",
            "rises(0, 0, 2, 1, 11) -> 11", "item(0, 2, 5, MIN) -> 1", "rises(0, 0, 2, 1, 11) -> NOT", "item(0, 2, 5, MAX) -> 1", "rises(0, 0, 2, 1, 11) -> NOT",
            "rises(0, 0, 2, 1, 4) -> 4", "sheet(1, 0, 1) -> 1", "item(1, 0, 0, 148) -> 1", "rises(0, 1, 0, 0, 1) -> NOT", "item(1, 0, 0, 127) -> 1",
            "rises(0, 1, 0, 0, 1) -> NOT", "item(1, 0, 0, 236) -> 1", "rises(0, 1, 0, 0, 1) -> 1"));
    }

    private static void sheet() {
        String part = "Promise 29";
        Runs.of(part, "A SHEET holds a new row of a LANE: n",
            "sheet(0, 0, 0) -> 0", "sheet(3, 2, 13) -> 13", "drop(0) -> 0", "drop(3) -> 13", "sheet(1, 1, 3) -> 3", "item(1, 1, 2, 9) -> 1",
            "sheet(1, 1, 3) -> 3", "rises(0, 1, 1, 2, 1) -> 1", "rise(0, 0, 0) -> 0", "sheet(1, 1, 2) -> 2", "item(1, 1, 2, 9) -> INDEX",
            "sheet(1, 2, 3) -> 3", "item(1, 1, 2, 9) -> CAST", "item(1, 2, 2, 9) -> 1", "drop(1) -> 3");
        Runs.of(part, "BAD: also n above 13",
            "rich", "sheet(-1|4|MIN|MAX, 0, 1) -> BAD", "sheet(0|3, -1|3|MIN|MAX, 1) -> BAD", "sheet(0|3, 0, 14|MAX) -> BAD", "sheet(3, 0, 13) -> 13",
            "sheet(0, 2, 14) -> BAD", "drop(0) -> 5");
        Runs.of(part, "SIZE: n below 0",
            "rich", "sheet(0|3, 0|2, -1|MIN) -> SIZE", "sheet(-1|4, 0, -1) -> BAD", "sheet(0, -1|3, MIN) -> BAD", "sheet(0, 0, 0) -> 0", "sheet(0, 0, -1) -> SIZE");
    }

    private static void drop() {
        String part = "Promise 30";
        Runs.of(part, "A SHEET holds nothing: how many items it had",
            "sheet(0, 0, 0) -> 0", "sheet(3, 2, 13) -> 13", "sheet(1, 1, 1) -> 1", "drop(0) -> 0", "drop(3) -> 13", "drop(0|3) -> NULL", "item(3, 2, 0, 0) -> NULL",
            "rises(0, 3, 2, 0, 1) -> NULL", "drop(1) -> 1");
        Runs.of(part, "BAD",
            "drop(-1|4) -> BAD", "rich", "drop(-1|4|MIN|MAX) -> BAD");
        Runs.of(part, "NULL",
            "drop(0|3) -> NULL", "rich", "drop(3) -> NULL", "drop(0) -> 5", "drop(0) -> NULL", "sheet(0, 0, 0) -> 0", "drop(0) -> 0");
    }

    private static void item() {
        String part = "Promise 31";
        Runs.of(part, "Item i of a SHEET, taken as a row of a LANE, becomes v, its lowest bits: 1",
            "sheet(0, 0, 13) -> 13", "item(0, 0, 0, 20) -> 1", "item(0, 0, 12, -20) -> 1", "rises(0, 0, 0, 0, 13) -> 13", "rise(0, 0, 0) -> 20",
            "rise(0, 12, 0) -> -20", "rise(0, 1|11, 0) -> 0", "item(0, 0, 0, 276) -> 1", "item(0, 0, 1, -276) -> 1", "item(0, 0, 2, 236) -> 1",
            "item(0, 0, 3, MIN) -> 1", "item(0, 0, 4, MAX) -> 1", "item(0, 0, 5, -1) -> 1", "item(0, 0, 6, 256) -> 1", "item(0, 0, 7, 65535) -> 1",
            "rises(0, 0, 0, 0, 13) -> 13", "rise(0, 0, 0) -> 20", "rise(0, 1, 0) -> -20", "rise(0, 2, 0) -> -20", "rise(0, 3, 0) -> 0", "rise(0, 4, 0) -> -1",
            "rise(0, 5, 0) -> -1", "rise(0, 6, 0) -> 0", "rise(0, 7, 0) -> -1", "item(0, 0, 0, 127|128|-128|-129|148) -> 1", "rises(0, 0, 0, 0, 1) -> NOT");
        Runs.of(part, "becomes v, its lowest bits",
            "sheet(0, 1, 13) -> 13", "item(0, 1, 0, 65556) -> 1", "item(0, 1, 1, -65556) -> 1", "item(0, 1, 2, 65516) -> 1", "item(0, 1, 3, MIN) -> 1",
            "item(0, 1, 4, MAX) -> 1", "item(0, 1, 5, 65536) -> 1", "rises(0, 0, 1, 0, 6) -> 6", "rise(0, 0, 0) -> 20", "rise(0, 1|2, 0) -> -20",
            "rise(0, 3, 0) -> 0", "rise(0, 4, 0) -> -1", "rise(0, 5, 0) -> 0", "item(0, 1, 0, 276) -> 1", "rises(0, 0, 1, 0, 1) -> NOT",
            "item(0, 1, 0, 32788) -> 1", "rises(0, 0, 1, 0, 1) -> NOT", "sheet(0, 2, 1) -> 1", "item(0, 2, 0, -20) -> 1", "rises(0, 0, 2, 0, 1) -> 1",
            "rise(0, 0, 0) -> -20", "item(0, 2, 0, 65556) -> 1", "rises(0, 0, 2, 0, 1) -> NOT", "item(0, 2, 0, MIN) -> 1", "rises(0, 0, 2, 0, 1) -> NOT");
    }

    private static void itemRefused() {
        String part = "Promise 31";
        Runs.of(part, "BAD",
            "item(4, 0, 0, 0) -> BAD", "rich", "item(-1|4|MIN|MAX, 0, 0, 9) -> BAD", "item(0|3, -1|3|MIN|MAX, 0, 9) -> BAD");
        Runs.of(part, "NULL",
            "item(0, 0, 0, 0) -> NULL", "rich", "item(3, 0|1|2, -1|0|13, 9) -> NULL", "drop(0) -> 5", "item(0, 0, 0, 9) -> NULL");
        Runs.of(part, "CAST",
            "rich", "item(0, 1|2, -1|0|4|5, 9) -> CAST", "item(1, 0|2, 0, 9) -> CAST", "item(2, 0|1, 0, 9) -> CAST");
        Runs.of(part, "INDEX",
            "rich", "item(0, 0, -1|5|13|MIN|MAX, 9) -> INDEX", "item(1, 1, -1|13|MIN|MAX, 9) -> INDEX", "item(2, 2, 0|-1, 9) -> INDEX", "item(0, 0, 4, 9) -> 1",
            "item(1, 1, 12, 9) -> 1");
    }

    private static void copy() {
        String part = "Promise 32";
        Runs.of(part, "n items of a SHEET from i on come to another one (or the same) from j on, as if all were taken ahead: n",
            "sheet(0, 0, 5) -> 5", "sheet(1, 0, 13) -> 13", "item(0, 0, 0, 1) -> 1", "item(0, 0, 1, 2) -> 1", "item(0, 0, 2, 3) -> 1", "item(0, 0, 3, 4) -> 1",
            "item(0, 0, 4, 5) -> 1", "copy(0, 0, 1, 8, 5) -> 5", "rises(0, 1, 0, 0, 13) -> 13", "rise(0, 7, 0) -> 0", "rise(0, 8, 0) -> 1", "rise(0, 12, 0) -> 5",
            "copy(0, 4, 1, 0, 1) -> 1", "rises(0, 1, 0, 0, 2) -> 2", "rise(0, 0, 0) -> 5", "rise(0, 1, 0) -> 0", "copy(0, 0, 1, 0, 0) -> 0",
            "copy(0, 5, 1, 13, 0) -> 0", "rises(0, 1, 0, 0, 1) -> 1", "rise(0, 0, 0) -> 5", "copy(1, 0, 1, 0, 13) -> 13", "drop(1) -> 13", "drop(0) -> 5");
        Runs.of(part, "(or the same) from j on, as if all were taken ahead",
            "sheet(0, 2, 4) -> 4", "item(0, 2, 0, 1) -> 1", "item(0, 2, 1, 2) -> 1", "item(0, 2, 2, 3) -> 1", "item(0, 2, 3, 4) -> 1",
            "copy(0, 0, 0, 1, 3) -> 3", "rises(0, 0, 2, 0, 4) -> 4", "rise(0, 0, 0) -> 1", "rise(0, 1, 0) -> 1", "rise(0, 2, 0) -> 2", "rise(0, 3, 0) -> 3",
            "copy(0, 1, 0, 0, 3) -> 3", "rises(0, 0, 2, 0, 4) -> 4", "rise(0, 0, 0) -> 1", "rise(0, 1, 0) -> 2", "rise(0, 2, 0) -> 3", "rise(0, 3, 0) -> 3",
            "copy(0, 0, 0, 0, 4) -> 4", "rises(0, 0, 2, 0, 4) -> 4", "rise(0, 0, 0) -> 1", "rise(0, 3, 0) -> 3");
    }

    private static void copyRefused() {
        String part = "Promise 32";
        Runs.of(part, "BAD",
            "copy(4, 0, 0, 0, 0) -> BAD", "rich", "copy(-1|4|MIN|MAX, 0, 0, 0, 1) -> BAD", "copy(0, 0, -1|4|MIN|MAX, 0, 1) -> BAD", "copy(3, 0, 4, 0, 1) -> BAD",
            "copy(-1, 0, 3, 0, 1) -> BAD");
        Runs.of(part, "NULL (either)",
            "copy(0, 0, 0, 0, 0) -> NULL", "rich", "copy(0|3, 0, 3, 0, 0|1) -> NULL", "copy(3, 0, 0|1|2, 0, 0|1) -> NULL", "drop(0) -> 5", "copy(0, 0, 1, 0, 1) -> NULL",
            "copy(1, 0, 0, 0, 1) -> NULL");
        Runs.of(part, "CAST: of unlike LANES",
            "rich", "copy(0, 0, 1|2, 0, 0|1) -> CAST", "copy(1|2, 0, 0, 0, 0|1) -> CAST", "copy(1, 0, 2, 0, 0) -> CAST", "copy(2, 0, 1, 0, 0) -> CAST",
            "sheet(3, 0, 1) -> 1", "copy(0, 0, 3, 0, 1) -> 1");
        Runs.of(part, "INDEX",
            "rich", "sheet(3, 0, 3) -> 3", "copy(0, -1|5|MIN|MAX, 3, 0, 1) -> INDEX", "copy(0, 0, 3, -1|3|MIN|MAX, 1) -> INDEX", "copy(0, 0, 3, 0, -1|4|MIN|MAX) -> INDEX",
            "copy(0, 3, 3, 0, 3) -> INDEX", "copy(0, 0, 3, 1, 3) -> INDEX", "copy(3, 0, 0, 0, 4) -> INDEX", "copy(3, 1, 0, 0, 3) -> INDEX", "copy(0, 0, 0, 1, 5) -> INDEX",
            "copy(0, 1, 0, 0, 5) -> INDEX", "copy(0, MAX, 0, MAX, MAX) -> INDEX", "copy(0, 1, 0, 1, MAX) -> INDEX", "copy(0, 2, 3, 0, 3) -> 3", "copy(0, 0, 3, 0, 3) -> 3",
            "copy(3, 0, 0, 2, 3) -> 3", "copy(2, 0, 2, 0, 1) -> INDEX", "copy(2, 0, 2, 0, 0) -> 0");
    }
}
