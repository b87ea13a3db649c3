import java.util.ArrayList;
import java.util.List;

/** The Terms, and how many calls an object takes. */
final class BoundariesOfTerms {
    private BoundariesOfTerms() {
    }

    static void all() {
        manyCalls();
        answersBelow0();
        theFirstNamed();
        theMachines();
        refusedChangesNothing();
        fractions();
    }

    private static void manyCalls() {
        String part = "What it is";
        String sentence = "An object is used for at most 512 calls after it has been made";
        List<String> rows = new ArrayList<>(List.of("bearing(0|4|8|12, 0)", "weight(2, 50) -> 0", "weight(10, 50) -> 0"));
        for (int k = 0; k < 252; k++) {
            rows.add("offset(1, " + (k % 2 == 0 ? 1 : 0) + ") -> " + (k % 2 == 0 ? 0 : 1));
            rows.add("plan(15) -> 0");
        }
        rows.add("through(0, 0) -> 85/4");
        Runs.of(part, sentence, rows.toArray(new String[0]));
        List<String> others = new ArrayList<>(List.of("bearing(0|12, 0)", "weight(6, 1) -> 0"));
        for (int k = 0; k < 507; k++) {
            others.add("jack(0, 6, " + (k % 91) + ", 0) -> 1");
        }
        others.add("load(0, 0) -> 1/2");
        Runs.of(part, sentence, others.toArray(new String[0]));
    }

    private static void answersBelow0() {
        String part = "Terms";
        String sentence = "BAD -1 (a number is not as told, there is no such thing), NOT -2 (as told), FULL -3, NONE -4 (as told)";
        Runs.value(part, sentence, "BAD", ShaftLine.BAD, -1);
        Runs.value(part, sentence, "NOT", ShaftLine.NOT, -2);
        Runs.value(part, sentence, "FULL", ShaftLine.FULL, -3);
        Runs.value(part, sentence, "NONE", ShaftLine.NONE, -4);
        Runs.value(part, "what the machine finds", "NULL", ShaftLine.NULL, -11);
        Runs.value(part, "what the machine finds", "CAST", ShaftLine.CAST, -12);
        Runs.value(part, "what the machine finds", "INDEX", ShaftLine.INDEX, -13);
        Runs.value(part, "what the machine finds", "SIZE", ShaftLine.SIZE, -14);
        Runs.of(part, "there is no such thing",
            "rich", "remove(3) -> BAD", "told(3, 0) -> BAD-100000", "count(4) -> BAD", "lifted(4) -> BAD", "load(0, 3) -> BAD", "high(0, 13) -> BAD",
            "table(0, 3) -> BAD", "drop(4) -> BAD", "item(0, 3, 0, 0) -> BAD", "reading(3, 0) -> BAD", "mended(3) -> BAD");
    }

    /** Where two refusals are due at once. */
    private static void theFirstNamed() {
        String part = "Terms";
        String sentence = "of several the first that a call names";
        Runs.of(part, sentence, "rich",
            "bearing(1, 51) -> BAD", "bearing(13, -51) -> BAD", "bearing(0, 0) -> 0", "bearing(2, 0) -> 2", "bearing(12, 0) -> 5", "bearing(1, 51) -> BAD",
            "bearing(3, 51) -> BAD", "bearing(13, 0) -> BAD", "bearing(1, 0) -> NOT", "bearing(3, 0) -> FULL");
        Runs.of(part, sentence, "rich",
            "rises(4, 3, 0, 0, 1) -> BAD", "rises(0, 3, 3, 0, 1) -> BAD", "rises(0, 3, 0, 0, 14) -> BAD", "rises(0, 1, 0, 0, 14) -> BAD", "rises(0, 0, 3, -1, 1) -> BAD",
            "rises(0, 0, 0, 99, 14) -> BAD", "rises(0, 3, 0, -1, 1) -> NULL", "rises(0, 1, 0, 99, 1) -> CAST", "rises(0, 1, 0, 1, 1) -> CAST",
            "rises(0, 1, 1, 1, 13) -> INDEX", "rises(4, 1, 1, 1, 1) -> BAD", "rises(0, 1, 1, 1, 1) -> NOT");
        Runs.of(part, sentence, "falling",
            "load(4, 0) -> BAD", "load(0, 2) -> BAD", "load(0, 0, 2) -> BAD", "load(0, 0) -> NOT", "lifted(4) -> BAD", "lifted(0) -> NOT", "high(4, 0) -> BAD",
            "high(0, 13) -> BAD", "high(0, 0, 2) -> BAD", "high(0, 0) -> NOT", "coupling(0, 13, 0) -> BAD", "coupling(0, 5, 2) -> BAD",
            "coupling(0, 5, 0) -> NOT", "jack(0, 4, 0) -> BAD", "jack(0, 0, 91) -> BAD", "jack(0, 0, 0) -> NOT", "run(0) -> BAD", "run(1) -> NOT",
            "plan(0) -> BAD", "plan(1) -> NONE", "move(0, 0) -> BAD-100", "move(1, 2) -> BAD-100", "move(1, 0) -> NONE-100",
            "mended(2) -> BAD", "mended(0) -> NONE", "remove(0) -> 1", "through(0, 1) -> BAD", "through(0, 0) -> NOT", "table(0, 1) -> BAD", "table(0, 0) -> NOT");
        Runs.of(part, sentence, "rich",
            "sheet(4, 0, -1) -> BAD", "sheet(0, 3, -1) -> BAD", "sheet(0, 0, -1) -> SIZE", "item(3, 3, 0, 0) -> BAD", "item(0, 3, 9, 0) -> BAD", "item(3, 0, 99, 0) -> NULL",
            "item(0, 1, 99, 0) -> CAST", "copy(3, 0, 4, 0, 0) -> BAD", "copy(3, 0, 0, -1, -1) -> NULL", "copy(0, 0, 3, -1, -1) -> NULL", "copy(0, 0, 1, -1, -1) -> CAST",
            "copy(0, 9, 1, 0, 1) -> CAST", "copy(4, 9, 1, 0, 1) -> BAD");
        String[] tape = new String[17];
        for (int k = 0; k < 15; k++) {
            tape[k] = "type('        ', 8) -> " + 8 * (k + 1);
        }
        tape[15] = "type('b', 0|9) -> BAD";
        tape[16] = "type(31|127, 1) -> BAD";
        Runs.of(part, sentence, tape);
    }

    private static void theMachines() {
        Runs.of("Terms", "what the machine finds: NULL -11, CAST -12, INDEX -13, SIZE -14, in this order",
            "rich", "item(3, 0, -1, 0) -> NULL", "item(0, 1, -1, 0) -> CAST", "item(0, 0, -1, 0) -> INDEX", "rises(0, 3, 0, -1, 1) -> NULL", "rises(0, 0, 1, -1, 1) -> CAST",
            "rises(0, 0, 0, -1, 1) -> INDEX", "copy(3, -1, 0, 0, 1) -> NULL", "copy(0, -1, 3, 0, 1) -> NULL", "copy(0, -1, 1, 0, 1) -> CAST",
            "copy(0, -1, 0, 0, 1) -> INDEX", "sheet(3, 0, -1) -> SIZE", "drop(3) -> NULL");
    }

    /** The tests of all other sentences see to it too, by each refused call; here is what the objects are that they start from. */
    private static void refusedChangesNothing() {
        String part = "Terms";
        Runs.of(part, "What is refused changes nothing, but as told",
            "rich", "count(0) -> 3", "count(1) -> 63", "count(2) -> 13", "count(3) -> 4", "told(0, 0) -> 1", "told(0, 1) -> 2", "told(0, 2) -> 6000", "told(0, 3) -> 11",
            "told(1, 2) -> 8000", "told(2, 2) -> 7000", "told(1, 1) -> -3", "told(2, 1) -> 2", "rise(2, 9, 3) -> 3", "rise(3, 0, 20) -> 20", "drop(0) -> 5", "drop(1) -> 13",
            "drop(2) -> 0", "drop(3) -> NULL", "read() -> 2", "told(1, 1) -> 7");
        Runs.of(part, "What is refused changes nothing, but as told",
            "rich", "read() -> 2", "line(b0;b1;x) -> FAULT 6", "read() -> FAULT 0", "count(0) -> 2", "told(0, 0) -> 2", "line(b3;) -> FAULT 3", "type('b3', 2) -> 2", "read() -> 1");
        Runs.of(part, "What is refused changes nothing, but as told",
            "rich", "bearing(1, 0) -> NOT", "bearing(13, 0) -> BAD", "remove(3) -> BAD", "offset(0, 51) -> BAD-100", "weight(0, 51) -> BAD", "stiffness(21) -> BAD",
            "rise(0, 0, 21) -> BAD-100", "rises(0, 1, 1, 0, 2) -> NOT", "rises(0, 1, 1, 0, 14) -> BAD", "type(127, 1) -> BAD", "bounds(20, 19) -> BAD", "plan(0) -> BAD",
            "move(0, 0) -> BAD-100", "reading(0, 601) -> BAD", "run(1001) -> BAD", "jack(0, 5, 0) -> BAD", "sheet(0, 0, 14) -> BAD", "sheet(0, 0, -1) -> SIZE",
            "drop(4) -> BAD", "item(0, 0, 5, 1) -> INDEX", "item(0, 1, 0, 1) -> CAST", "copy(0, 0, 0, 1, 5) -> INDEX", "copy(0, 0, 1, 0, 1) -> CAST", "copy(0, 0, 3, 0, 1) -> NULL");
        Runs.of(part, "What is refused changes nothing, but as told",
            "falling", "read()", "line(b4;b6;w7=1) -> 2", "run(1000) -> NOT", "told(0|1, 2) -> 0", "jack(0, 0, 0) -> NOT", "lifted(0) -> NOT", "weight(7, 0) -> 1", "lifted(0) -> 3",
            "jack(0, 0, 91) -> BAD", "lifted(0) -> 3");
    }

    private static void fractions() {
        String part = "Terms";
        Runs.of(part, "Fractions are told above (0) and below (1), below above 0, without a common divisor",
            "line(b0;b12;w6=41) -> 2", "load(0, 0, 0) -> 41", "load(0, 0, 1) -> 2", "weight(6, 40) -> 41", "load(0, 0, 0) -> 20", "load(0, 0, 1) -> 1",
            "weight(6, 0) -> 40", "load(0, 0, 0) -> 0", "load(0, 0, 1) -> 1", "high(0, 6, 0) -> 0", "high(0, 6, 1) -> 1", "weight(6, 1) -> 0",
            "high(0, 6, 0) -> -18", "high(0, 6, 1) -> 5", "table(0, 0, 0) -> 0", "table(0, 0, 1) -> 1", "bearing(6, 0) -> 1", "table(0, 1, 0) -> -5",
            "table(0, 1, 1) -> 36", "through(0, 0, 0) -> 0", "through(0, 0, 1) -> 1", "offset(1, 1) -> 0", "through(0, 0, 0) -> -5", "through(0, 0, 1) -> 36",
            "jack(0, 3, -90, 0) -> 0", "jack(0, 3, -90, 1) -> 1");
        Runs.of(part, "below above 0, without a common divisor",
            "line(b0;b4;b8;b12;w2=1) -> 4", "coupling(0, 6, 0, 0) -> 1", "coupling(0, 6, 0, 1) -> 5", "rise(0, 12, 10) -> 0", "coupling(0, 6, 0, 0) -> 26",
            "coupling(0, 6, 0, 1) -> 5", "offset(3, -40) -> 0", "coupling(0, 6, 0, 0) -> -74", "coupling(0, 6, 0, 1) -> 5", "coupling(0, 6, 1, 0) -> 76",
            "coupling(0, 6, 1, 1) -> 1", "line(b0;b4;b8;b12) -> 4", "rise(0, 12, 0) -> 10", "coupling(0, 6, 0|1, 0) -> 0", "coupling(0, 6, 0|1, 1) -> 1");
        Runs.of(part, "refused ones less 2^40 (1099511627776), both of them",
            "load(0, 0, 0|1) -> BAD", "high(0, 13, 0|1) -> BAD", "through(0, 0, 0|1) -> BAD", "table(0, 0, 0|1) -> BAD", "coupling(0, 13, 0|1, 0|1) -> BAD",
            "jack(0, 13, 0, 0|1) -> BAD", "high(0, 0, 0) -> -1099511627778", "jack(0, 0, 0, 0) -> -1099511627778", "coupling(0, 6, 1, 0) -> -1099511627778",
            "line(b4;w9=1) -> 1", "load(0, 0, 0|1) -> NOT", "high(0, 0, 0|1) -> NOT", "through(0, 0, 0|1) -> NOT", "table(0, 0, 0|1) -> NOT",
            "coupling(0, 5, 0|1, 0|1) -> NOT", "jack(0, 5, 0, 0|1) -> NOT", "load(0, 1, 0) -> -1099511627777", "load(0, 0, 0) -> -1099511627778");
    }
}
