import java.io.ByteArrayOutputStream;
import java.io.IOException;
import java.io.OutputStream;
import java.io.PrintStream;
import java.io.UncheckedIOException;
import java.lang.reflect.Field;
import java.lang.reflect.InvocationTargetException;
import java.lang.reflect.Method;
import java.net.URI;
import java.net.URL;
import java.net.URLClassLoader;
import java.nio.file.Files;
import java.nio.file.Path;
import java.util.ArrayList;
import java.util.Collection;
import java.util.Collections;
import java.util.HashMap;
import java.util.List;
import java.util.Map;
import java.util.Set;
import java.util.TreeMap;
import java.util.TreeSet;
import java.util.concurrent.ExecutorService;
import java.util.concurrent.Executors;
import java.util.concurrent.TimeUnit;
import java.util.regex.Matcher;
import java.util.regex.Pattern;
import javax.tools.FileObject;
import javax.tools.ForwardingJavaFileManager;
import javax.tools.JavaCompiler;
import javax.tools.JavaFileManager;
import javax.tools.JavaFileObject;
import javax.tools.SimpleJavaFileObject;
import javax.tools.StandardJavaFileManager;
import javax.tools.StandardLocation;
import javax.tools.ToolProvider;

/**
 * A tool for the hand, no test: changes the class in one place at a time, and tells which changes the
 * tests of boundaries do not find, and which of these tests no change makes fail.
 *
 * Arguments: the class's file, the directory of the compiled tests, the document's file; then, if only
 * some changes are wanted, a file of them: each a line "---- part: sentence" (of the test that must find it),
 * then what stands, a line "=>", and what shall stand. With -Dleft=DIRECTORY the class as it is with
 * each change that was not found is put there, for other tests to look at.
 */
public final class Mutants {
    private static final long MOST_MILLIS = 60000;
    private static final Pattern SIGNS = Pattern.compile(
        "/\\*.*?\\*/|//[^\\n]*|'[^']*'|\"[^\"]*\"|<<|>>|->|\\+\\+|--|\\+=|-=|\\*=|\\|=|<=|>=|==|!=|&&|\\|\\||[-+*/%<>!&|]"
        + "|\\b\\d+L?\\b|\\b(?:true|false|BAD|NOT|FULL|NONE|NULL|CAST|INDEX|SIZE|min|max|least|most)\\b", Pattern.DOTALL);
    private static final Map<String, String[]> OTHERS = new HashMap<>();
    private static final Set<String> TESTS = Collections.synchronizedSet(new TreeSet<>());
    private static final Set<String> BROKEN = Collections.synchronizedSet(new TreeSet<>());
    private static final Map<Integer, String> UNFOUND = Collections.synchronizedMap(new TreeMap<>());
    private static final Map<Integer, String> UNCOMPILED = Collections.synchronizedMap(new TreeMap<>());
    private static URL tests;
    private static String document;

    static {
        String[][] pairs = {{"<", "<="}, {"<=", "<"}, {">", ">="}, {">=", ">"}, {"==", "!="}, {"!=", "=="}, {"&&", "||"}, {"||", "&&"},
            {"+", "-"}, {"-", "+"}, {"*", "+"}, {"++", "--"}, {"--", "++"}, {"+=", "-="}, {"-=", "+="}, {"!", ""}, {"true", "false"},
            {"false", "true"}, {"BAD", "NOT"}, {"NOT", "BAD"}, {"FULL", "NOT"}, {"NONE", "NOT"}, {"NULL", "INDEX"}, {"CAST", "INDEX"},
            {"INDEX", "CAST"}, {"SIZE", "BAD"}, {"min", "max"}, {"max", "min"}, {"&", "|"}, {"<<", ">>"}, {">>", "<<"}};
        for (String[] pair : pairs) {
            OTHERS.put(pair[0], new String[] {pair[1]});
        }
    }

    private Mutants() {
    }

    public static void main(String[] args) throws Exception {
        String source = Files.readString(Path.of(args[0]));
        tests = Path.of(args[1]).toUri().toURL();
        document = args[2];
        List<String[]> changes = args.length > 3 ? told(source, Path.of(args[3])) : all(source);
        PrintStream out = System.out;
        System.setOut(new PrintStream(OutputStream.nullOutputStream()));
        ExecutorService workers = Executors.newFixedThreadPool(Math.max(1, Runtime.getRuntime().availableProcessors() - 1));
        for (int k = 0; k < changes.size(); k++) {
            int number = k;
            workers.execute(() -> look(number, changes.get(number)));
        }
        workers.shutdown();
        workers.awaitTermination(2, TimeUnit.HOURS);
        UNFOUND.values().forEach(what -> out.println("not found: " + what));
        Set<String> never = new TreeSet<>(TESTS);
        never.removeAll(BROKEN);
        if (args.length > 3) {
            UNCOMPILED.values().forEach(what -> out.println("does not compile: " + what));
        } else {
            never.forEach(test -> out.println("no change breaks: " + test));
        }
        out.println(changes.size() + " changes, " + UNCOMPILED.size() + " do not compile, " + UNFOUND.size() + " not found; "
            + TESTS.size() + " sentences, " + never.size() + " of them broken by no change");
        System.exit(0);
    }

    /** All changes of single signs and all lines left out: what it is, and the source with it. */
    private static List<String[]> all(String source) {
        List<String[]> changes = new ArrayList<>();
        Matcher sign = SIGNS.matcher(source);
        while (sign.find()) {
            for (String other : othersOf(sign.group())) {
                changes.add(change(source, sign.start(), sign.end(), other));
            }
        }
        int from = 0;
        for (String line : source.split("\n")) {
            String what = line.trim();
            if (what.endsWith(";") && !what.startsWith("return") && !what.startsWith("private") && !what.startsWith("final")) {
                changes.add(change(source, from, from + line.length(), ""));
            }
            from += line.length() + 1;
        }
        return changes;
    }

    private static String[] othersOf(String sign) {
        if (Character.isDigit(sign.charAt(0))) {
            String tail = sign.endsWith("L") ? "L" : "";
            long value = Long.parseLong(sign.replace("L", ""));
            return new String[] {value + 1 + tail, (value == 0 ? "-1" : "" + (value - 1)) + tail};
        }
        return OTHERS.getOrDefault(sign, new String[0]);
    }

    private static String[] change(String source, int from, int to, String other) {
        int line = 1 + (int) source.substring(0, from).chars().filter(c -> c == '\n').count();
        int start = source.lastIndexOf('\n', from) + 1;
        int end = source.indexOf('\n', from);
        String name = "line " + line + ": " + source.substring(start, from).stripLeading() + "[" + source.substring(from, to).trim() + " => " + other + "]"
            + source.substring(to, Math.max(to, end));
        return new String[] {name, source.substring(0, from) + other + source.substring(to)};
    }

    private static List<String[]> told(String source, Path file) throws IOException {
        List<String[]> changes = new ArrayList<>();
        for (String block : Files.readString(file).split("(?m)^---- ")) {
            int arrow = block.indexOf("=>\n");
            if (arrow < 0) {
                continue;
            }
            int text = block.indexOf('\n') + 1;
            String sentence = block.substring(0, text - 1);
            String stands = block.substring(text, arrow).stripTrailing();
            String shall = block.substring(arrow + 3).stripTrailing();
            int at = source.indexOf(stands);
            if (at < 0 || source.indexOf(stands, at + 1) >= 0) {
                System.out.println("of " + sentence + ": stands not just once: " + stands);
            } else {
                String changed = source.substring(0, at) + shall + source.substring(at + stands.length());
                changes.add(new String[] {sentence + "\n" + stands + "\n=>\n" + shall, changed, sentence.replaceFirst(": ", ", '") + "'"});
            }
        }
        return changes;
    }

    /** A change has its name, the source with it and perhaps the test that must find it. */
    private static void look(int number, String[] change) {
        String name = change[0];
        Map<String, byte[]> classes = compile(change[1]);
        if (classes == null) {
            UNCOMPILED.put(number, name);
            return;
        }
        List<String> failed = new ArrayList<>();
        boolean[] ended = {false};
        Thread run = new Thread(() -> {
            try {
                ended[0] = run(classes, failed);
            } catch (ReflectiveOperationException e) {
                failed.add("" + e);
            }
        });
        run.setDaemon(true);
        run.start();
        try {
            run.join(MOST_MILLIS);
        } catch (InterruptedException e) {
            failed.add("" + e);
        }
        boolean found = !ended[0] || (change.length > 2 ? failed.contains(change[2]) : !failed.isEmpty());
        if (!found) {
            keep(number, change[1]);
            UNFOUND.put(number, name + (failed.isEmpty() ? "" : "\n    but " + String.join("\n    but ", failed)));
        }
        synchronized (BROKEN) {
            BROKEN.addAll(failed);
        }
    }

    private static void keep(int number, String source) {
        String left = System.getProperty("left");
        if (left != null) {
            try {
                Path place = Files.createDirectories(Path.of(left, "" + number));
                Files.writeString(place.resolve("ShaftLine.java"), source);
            } catch (IOException e) {
                throw new UncheckedIOException(e);
            }
        }
    }

    private static boolean run(Map<String, byte[]> classes, List<String> failed) throws ReflectiveOperationException {
        ClassLoader loader = new Loader(classes);
        Method wrong = loader.loadClass("BoundariesTest").getDeclaredMethod("wrong", String.class);
        wrong.setAccessible(true);
        try {
            wrong.invoke(null, document);
        } catch (InvocationTargetException e) {
            failed.add("" + e.getCause());
        }
        failed.addAll(setOf(loader, "FAILED"));
        TESTS.addAll(setOf(loader, "TESTS"));
        return true;
    }

    @SuppressWarnings("unchecked")
    private static Collection<String> setOf(ClassLoader loader, String name) throws ReflectiveOperationException {
        Field field = loader.loadClass("Runs").getDeclaredField(name);
        field.setAccessible(true);
        return (Collection<String>) field.get(null);
    }

    private static Map<String, byte[]> compile(String source) {
        JavaCompiler compiler = ToolProvider.getSystemJavaCompiler();
        StandardJavaFileManager standard = compiler.getStandardFileManager(d -> { }, null, null);
        Map<String, ByteArrayOutputStream> made = new HashMap<>();
        JavaFileManager files = new ForwardingJavaFileManager<>(standard) {
            @Override
            public JavaFileObject getJavaFileForOutput(Location location, String name, JavaFileObject.Kind kind, FileObject sibling) {
                return new SimpleJavaFileObject(URI.create("memory:///" + name + ".class"), kind) {
                    @Override
                    public OutputStream openOutputStream() {
                        ByteArrayOutputStream bytes = new ByteArrayOutputStream();
                        made.put(name, bytes);
                        return bytes;
                    }
                };
            }
        };
        JavaFileObject file = new SimpleJavaFileObject(URI.create("memory:///ShaftLine.java"), JavaFileObject.Kind.SOURCE) {
            @Override
            public CharSequence getCharContent(boolean ignore) {
                return source;
            }
        };
        boolean good = compiler.getTask(null, files, d -> { }, List.of("-proc:none", "--release", "17"), null, List.of(file)).call();
        Map<String, byte[]> classes = new HashMap<>();
        made.forEach((name, bytes) -> classes.put(name, bytes.toByteArray()));
        return good ? classes : null;
    }

    /** Takes the changed class from memory, and the tests anew from their directory. */
    private static final class Loader extends URLClassLoader {
        private final Map<String, byte[]> classes;

        Loader(Map<String, byte[]> classes) {
            super(new URL[] {tests}, ClassLoader.getPlatformClassLoader());
            this.classes = classes;
        }

        @Override
        protected Class<?> findClass(String name) throws ClassNotFoundException {
            byte[] bytes = classes.get(name);
            return bytes == null ? super.findClass(name) : defineClass(name, bytes, 0, bytes.length);
        }
    }
}
