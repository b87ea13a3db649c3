import java.lang.reflect.InvocationTargetException;
import java.lang.reflect.Method;
import java.util.ArrayList;
import java.util.LinkedHashSet;
import java.util.List;
import java.util.Set;

/**
 * Runs of calls, each told as rows of text, and each of one sentence of the document.
 *
 * A row is a call and the answer that is due: "weight(12, 50) -> 0". Of its arguments and answers:
 * - a|b stands for either: the row is made once with each, in this order;
 * - MIN, MAX: the ends of int; 'b1;' the number of these bytes;
 * - a fraction's call without its last argument is made for above and below: "load(0, 1) -> 5/2";
 * - BAD, NOT, .. and BAD-100, .. are refusals (of fractions less 2^40); FAULT 7 is that of a TEXT.
 * "typed(..)" types a text, "line(..)" types and reads it, "new" is a new object and "rich" one in which
 * everything is as it may be. A row without an answer just leads to where others are asked.
 *
 * Whatever call is refused, all that can be asked of the object is compared with that of a like one
 * to which the refused call was not made.
 */
final class Runs {
    private static final int MOST_CALLS = 512;
    private static final long FAR = 1099511627776L;
    private static final String[] RICH = {
        "line(b1=3;b5=-2;b9=4;w0=5;w3=20;w7=31;w12=7;f13)", "run(1000)",
        "reading(0, 11)", "reading(1, 40)", "reading(2, 9)",
        "rise(0, 0, 1)", "rise(0, 5, 2)", "rise(1, 12, -20)", "rise(2, 9, 3)", "rise(3, 0, 20)", "bounds(3, 20)",
        "sheet(0, 0, 5)", "item(0, 0, 0, 1)", "item(0, 0, 1, -2)", "item(0, 0, 2, 3)", "item(0, 0, 3, -20)", "item(0, 0, 4, 20)",
        "sheet(1, 1, 13)", "item(1, 1, 0, 7)", "item(1, 1, 1, 21)", "item(1, 1, 12, 8)", "sheet(2, 2, 0)",
        "typed(b2;b4=7;w3=9;f4)", "load(0, 0)", "plan(3)"};
    private static final String[] FALLING = {"line(b4;b6;w5=2;w9=9;f3)", "typed(b2;w3=9)", "sheet(0, 0, 2)"};

    private static final List<Method> CALLS = calls();
    /** The tests that failed, and all, as their sentences. */
    static final Set<String> FAILED = new LinkedHashSet<>();
    static final Set<String> TESTS = new LinkedHashSet<>();
    private static String test = "";
    private static int tests = 0;
    private static int made = 0;
    private static int refused = 0;
    private static int wrong = 0;

    private ShaftLine line;
    private final List<Call> before = new ArrayList<>();

    private Runs() {
        begin();
    }

    /** One test: of a sentence (or a part of it) of a part of the document. */
    static void of(String part, String sentence, String... rows) {
        begin(part, sentence);
        Runs run = new Runs();
        for (String row : rows) {
            run.row(row);
        }
    }

    /** One test of what is no call. */
    static void value(String part, String sentence, String name, long got, long due) {
        begin(part, sentence);
        compare(name, got, due);
    }

    private static void begin(String part, String sentence) {
        Sentences.test(part, sentence);
        test = part + ", '" + sentence + "'";
        TESTS.add(test);
        tests++;
    }

    /** Tells what was found; the number of what is wrong. */
    static int end() {
        int untested = Sentences.untested();
        System.out.println(tests + " tests of sentences, " + made + " calls compared, " + refused
            + " refused ones changed nothing else; " + wrong + " wrong, " + untested + " sentences amiss");
        return wrong + untested;
    }

    static void fail(String what) {
        wrong++;
        FAILED.add(test);
        System.out.println(test + ": " + what);
    }

    private static void compare(String call, long got, long due) {
        made++;
        if (got != due) {
            fail(call + " answered " + got + ", due is " + due);
        }
    }

    private void begin() {
        line = new ShaftLine();
        before.clear();
    }

    private void row(String row) {
        if (row.equals("new")) {
            begin();
        } else if (row.equals("rich")) {
            begin();
            rows(RICH);
        } else if (row.equals("falling")) {
            begin();
            rows(FALLING);
        } else {
            int arrow = row.indexOf(" -> ");
            String due = arrow < 0 ? null : row.substring(arrow + 4);
            String call = arrow < 0 ? row : row.substring(0, arrow);
            String name = call.substring(0, call.indexOf('('));
            String inside = call.substring(call.indexOf('(') + 1, call.length() - 1);
            if (name.equals("line") || name.equals("typed")) {
                text(inside, name.equals("line"), due);
            } else {
                List<String[]> all = eachOf(inside);
                for (String[] arguments : all) {
                    make(name, arguments, due);
                }
            }
        }
    }

    private void rows(String[] rows) {
        for (String row : rows) {
            row(row);
        }
    }

    private void text(String text, boolean read, String due) {
        for (int k = 0; k < text.length(); k += 8) {
            String piece = text.substring(k, Math.min(text.length(), k + 8));
            boolean last = k + 8 >= text.length() && !read;
            make("type", new String[] {"'" + piece + "'", "" + piece.length()}, last ? due : null);
        }
        if (read) {
            make("read", new String[0], due);
        }
    }

    /** Arguments, with each of those that are told by a|b. */
    private static List<String[]> eachOf(String inside) {
        List<String[]> all = new ArrayList<>();
        all.add(inside.isEmpty() ? new String[0] : inside.split(", "));
        for (int k = 0; k < all.get(0).length; k++) {
            List<String[]> next = new ArrayList<>();
            for (String[] arguments : all) {
                for (String one : arguments[k].split("\\|")) {
                    String[] these = arguments.clone();
                    these[k] = one;
                    next.add(these);
                }
            }
            all = next;
        }
        return all;
    }

    private void make(String name, String[] arguments, String due) {
        Method method = methodOf(name);
        int asked = method.getParameterCount();
        if (arguments.length == asked) {
            make(new Call(method, arguments), due, 0);
        } else if (arguments.length == asked - 1 && method.getReturnType() == long.class) {
            for (int what = 0; what < 2; what++) {
                String[] all = new String[asked];
                System.arraycopy(arguments, 0, all, 0, asked - 1);
                all[asked - 1] = "" + what;
                make(new Call(method, all), due, what);
            }
        } else {
            fail(name + " is told with " + arguments.length + " arguments");
        }
    }

    private void make(Call call, String due, int what) {
        long got = call.answer(line);
        if (due != null) {
            compare(call.text, got, number(due, call, what));
            if (Character.isUpperCase(due.charAt(0))) {
                refused++;
                seeUnchanged(call, due.startsWith("FAULT"));
            }
        }
        before.add(call);
        if (before.size() > MOST_CALLS) {
            fail("the run is too long");
        }
    }

    private void seeUnchanged(Call call, boolean emptiesTape) {
        ShaftLine asked = new ShaftLine();
        ShaftLine other = new ShaftLine();
        for (Call each : before) {
            each.answer(asked);
            each.answer(other);
        }
        call.answer(asked);
        if (emptiesTape && asked.type(' ', 1) != 1) {
            fail("THE TAPE is not empty behind " + call.text);
        }
        Probe ofAsked = new Probe(asked, !emptiesTape);
        Probe ofOther = new Probe(other, !emptiesTape);
        if (before.size() + 1 + ofAsked.size() > MOST_CALLS) {
            fail("the run is too long to be looked at behind " + call.text);
        }
        ofAsked.seeLike(ofOther, call.text);
    }

    private static long number(String due, Call call, int what) {
        if (Character.isUpperCase(due.charAt(0))) {
            if (due.startsWith("FAULT ")) {
                return -20 - Long.parseLong(due.substring(6));
            }
            return refusal(due) - (call.method.getReturnType() == long.class ? FAR : 0);
        }
        int slash = due.indexOf('/');
        if (slash < 0) {
            return what == 0 ? Long.parseLong(due) : 1;
        }
        return Long.parseLong(what == 0 ? due.substring(0, slash) : due.substring(slash + 1));
    }

    private static long refusal(String due) {
        int less = due.indexOf('-');
        switch (less < 0 ? due : due.substring(0, less)) {
            case "BAD": return -1 - lessOf(due, less);
            case "NOT": return -2 - lessOf(due, less);
            case "FULL": return -3 - lessOf(due, less);
            case "NONE": return -4 - lessOf(due, less);
            case "NULL": return -11 - lessOf(due, less);
            case "CAST": return -12 - lessOf(due, less);
            case "INDEX": return -13 - lessOf(due, less);
            case "SIZE": return -14 - lessOf(due, less);
            default:
                fail("there is no refusal " + due);
                return 0;
        }
    }

    private static long lessOf(String due, int less) {
        return less < 0 ? 0 : Long.parseLong(due.substring(less + 1));
    }

    private static List<Method> calls() {
        List<Method> all = new ArrayList<>();
        for (Method method : ShaftLine.class.getDeclaredMethods()) {
            if (java.lang.reflect.Modifier.isPublic(method.getModifiers())) {
                all.add(method);
            }
        }
        return all;
    }

    private static Method methodOf(String name) {
        for (Method method : CALLS) {
            if (method.getName().equals(name)) {
                return method;
            }
        }
        throw new IllegalArgumentException("there is no call " + name);
    }

    /** A call that can be made to any object. */
    private static final class Call {
        final Method method;
        final Object[] arguments;
        final String text;

        Call(Method method, String[] told) {
            this.method = method;
            arguments = new Object[told.length];
            for (int k = 0; k < told.length; k++) {
                arguments[k] = argument(told[k], method.getParameterTypes()[k]);
            }
            text = method.getName() + "(" + String.join(", ", told) + ")";
        }

        private static Object argument(String told, Class<?> type) {
            if (type == int.class) {
                return told.equals("MIN") ? Integer.MIN_VALUE : told.equals("MAX") ? Integer.MAX_VALUE : Integer.parseInt(told);
            }
            if (told.startsWith("'")) {
                long number = 0;
                for (int k = 1; k + 1 < told.length(); k++) {
                    number = number << 8 | told.charAt(k);
                }
                return number;
            }
            return told.startsWith("0x") ? Long.parseUnsignedLong(told.substring(2), 16) : Long.parseLong(told);
        }

        long answer(ShaftLine x) {
            try {
                return ((Number) method.invoke(x, arguments)).longValue();
            } catch (InvocationTargetException e) {
                fail(text + " threw " + e.getCause());
            } catch (IllegalAccessException e) {
                fail(text + " can't be called");
            }
            return Long.MIN_VALUE;
        }
    }

    /** All that can be asked of an object (which is spoilt by it). */
    private static final class Probe {
        private final List<String> calls = new ArrayList<>();
        private final List<Long> answers = new ArrayList<>();
        private final ShaftLine x;

        Probe(ShaftLine x, boolean tape) {
            this.x = x;
            askLine();
            askLoads();
            if (tape) {
                askTape();
            }
            askWeights();
            askSheets();
            askRises();
            askBounds();
        }

        /** How many calls it made at most: beside those that are told, some that lead to them. */
        int size() {
            return calls.size() + 130;
        }

        private void told(String call, long answer) {
            calls.add(call);
            answers.add(answer);
        }

        private void askLine() {
            for (int what = 0; what < 4; what++) {
                told("count(" + what + ")", x.count(what));
            }
            for (int b = 0; b < 6; b++) {
                for (int what = 0; what < 4; what++) {
                    told("told(" + b + ", " + what + ")", x.told(b, what));
                }
            }
            told("closes()", x.closes());
            told("whirl()", x.whirl());
        }

        private void askLoads() {
            for (int s = 0; s < 4; s++) {
                told("lifted(" + s + ")", x.lifted(s));
                told("load(" + s + ", 0, 0)", x.load(s, 0, 0));
                told("high(" + s + ", 12, 0)", x.high(s, 12, 0));
                told("high(" + s + ", 12, 1)", x.high(s, 12, 1));
                told("through(" + s + ", 0, 0)", x.through(s, 0, 0));
                told("fits(" + (1 << s) + ")", x.fits(1 << s));
                told("plan(" + (1 << s) + ")", x.plan(1 << s));
                told("move(" + (1 << s) + ", 0)", x.move(1 << s, 0));
            }
        }

        private void askWeights() {
            for (int p = 0; p < 13; p++) {
                told("weight(" + p + ", 0)", x.weight(p, 0));
            }
        }

        /** The TAPE is looked at by one more byte and by what it is as a line. */
        private void askTape() {
            askWeights();
            told("type(' ', 1)", x.type(' ', 1));
            told("read()", x.read());
            told("count(2)", x.count(2));
            for (int b = 0; b < 6; b++) {
                told("told(" + b + ", 0)", x.told(b, 0));
                told("told(" + b + ", 1)", x.told(b, 1));
            }
        }

        private void askRises() {
            for (int s = 0; s < 4; s++) {
                for (int p = 0; p < 13; p++) {
                    told("rise(" + s + ", " + p + ", 0)", x.rise(s, p, 0));
                }
            }
        }

        /** RISES of STATE 3 are asked first, since items are told by nothing else. */
        private void askSheets() {
            for (int p = 0; p < 13; p++) {
                told("rise(3, " + p + ", 0)", x.rise(3, p, 0));
            }
            for (int sheet = 0; sheet < 4; sheet++) {
                int held = -1;
                for (int lane = 0; lane < 3; lane++) {
                    int answer = x.rises(3, sheet, lane, 0, 0);
                    told("rises(3, " + sheet + ", " + lane + ", 0, 0)", answer);
                    held = answer == 0 ? lane : held;
                }
                for (int i = 0; i < 13; i++) {
                    int answer = x.rises(3, sheet, held, i, 1);
                    if (answer == ShaftLine.INDEX || answer == ShaftLine.BAD) {
                        break;
                    }
                    told("item " + i + " of sheet " + sheet, answer < 0 ? answer : x.rise(3, 0, 0));
                }
                told("drop(" + sheet + ")", x.drop(sheet));
            }
        }

        /** Of two bearings with like loads; then of one that has 600, and 601. */
        private void askBounds() {
            while (x.count(0) > 0) {
                x.remove(0);
            }
            x.bearing(5, 0);
            x.bearing(7, 0);
            for (int w = 0; w <= 50; w++) {
                x.weight(6, w);
                told("fits(1) with loads of " + w + "/2", x.fits(1));
            }
            x.remove(0);
            x.bearing(6, 0);
            for (int p = 0; p < 13; p++) {
                x.weight(p, p == 6 ? 0 : 50);
            }
            told("fits(1) with a load of 600", x.fits(1));
            x.weight(6, 1);
            told("fits(1) with a load of 601", x.fits(1));
        }

        void seeLike(Probe other, String call) {
            for (int k = 0; k < calls.size() || k < other.calls.size(); k++) {
                if (k >= calls.size() || k >= other.calls.size() || !calls.get(k).equals(other.calls.get(k))
                    || !answers.get(k).equals(other.answers.get(k))) {
                    String where = k < calls.size() ? calls.get(k) + " answered " + answers.get(k) : "nothing";
                    String due = k < other.calls.size() ? other.calls.get(k) + " -> " + other.answers.get(k) : "nothing";
                    fail(call + " was refused, but behind it " + where + "; without it " + due);
                    return;
                }
            }
        }
    }
}
