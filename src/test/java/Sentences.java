import java.io.IOException;
import java.nio.charset.StandardCharsets;
import java.nio.file.Files;
import java.nio.file.Path;
import java.util.ArrayList;
import java.util.List;

/**
 * The sentences of the document: those that tests name must stand there, and each that stands
 * in its Terms, its three parts and its promises must be named by a test.
 */
final class Sentences {
    /** It tells what is asked for elsewhere, but for how many calls an object takes. */
    private static final String PREFACE = "What it is";
    private static final List<String> PARTS = new ArrayList<>();
    private static final List<String> SENTENCES = new ArrayList<>();
    private static final List<Boolean> TESTED = new ArrayList<>();
    private static int amiss = 0;

    private Sentences() {
    }

    static void read(String file) throws IOException {
        String part = "";
        for (String line : Files.readAllLines(Path.of(file), StandardCharsets.UTF_8)) {
            if (line.startsWith("## ")) {
                int colon = line.indexOf(':');
                part = line.substring(3, colon < 0 ? line.length() : colon);
            } else if (line.startsWith("==== ")) {
                part = "Part " + line.charAt(5);
                take(part, line.substring(7));
            } else if (isAsked(part) && !line.startsWith("```") && !line.startsWith("Ahead of the calls")) {
                take(part, line);
            }
        }
        if (SENTENCES.isEmpty()) {
            amiss++;
            System.out.println("no sentences in " + file);
        }
    }

    private static boolean isAsked(String part) {
        return part.equals(PREFACE) || part.equals("Terms") || part.startsWith("Part ") || part.startsWith("Promise ");
    }

    /** Cuts a line into sentences: at . and ; but not within parentheses, nor where they stand alone or in a range. */
    private static void take(String part, String line) {
        String text = line.replaceFirst("^`[^`]*`: ", "").trim();
        int depth = 0;
        int from = 0;
        for (int k = 0; k < text.length(); k++) {
            char c = text.charAt(k);
            depth += c == '(' ? 1 : c == ')' ? -1 : 0;
            boolean last = k + 1 == text.length();
            boolean ends = (c == ';' || c == '.') && (last || text.charAt(k + 1) == ' ')
                && k > 0 && text.charAt(k - 1) != '.' && text.charAt(k - 1) != ' ';
            if (last || ends && depth == 0) {
                add(part, text.substring(from, ends ? k : k + 1).trim());
                from = k + 1;
            }
        }
    }

    private static void add(String part, String sentence) {
        if (!sentence.isEmpty()) {
            PARTS.add(part);
            SENTENCES.add(sentence);
            TESTED.add(part.equals(PREFACE));
        }
    }

    static void test(String part, String sentence) {
        boolean found = false;
        boolean whole = false;
        for (int k = 0; k < SENTENCES.size(); k++) {
            whole |= PARTS.get(k).equals(part) && SENTENCES.get(k).equals(sentence);
        }
        for (int k = 0; k < SENTENCES.size(); k++) {
            if (PARTS.get(k).equals(part) && (whole ? SENTENCES.get(k).equals(sentence) : SENTENCES.get(k).contains(sentence))) {
                TESTED.set(k, true);
                found = true;
            }
        }
        if (!found) {
            amiss++;
            System.out.println("the document has no '" + sentence + "' in " + part);
        }
    }

    /** How many sentences no test names, or are named but not there. */
    static int untested() {
        for (int k = 0; k < SENTENCES.size(); k++) {
            if (!TESTED.get(k)) {
                amiss++;
                System.out.println("no test names '" + SENTENCES.get(k) + "' of " + PARTS.get(k));
            }
        }
        return amiss;
    }
}
