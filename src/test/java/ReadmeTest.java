import java.io.File;
import java.io.IOException;
import java.lang.reflect.InvocationTargetException;
import java.lang.reflect.Method;
import java.lang.reflect.Modifier;
import java.net.URL;
import java.net.URLClassLoader;
import java.nio.charset.StandardCharsets;
import java.nio.file.Files;
import java.nio.file.Path;
import java.util.ArrayList;
import java.util.Arrays;
import java.util.LinkedHashMap;
import java.util.List;
import java.util.Map;
import java.util.TreeSet;
import java.util.regex.Matcher;
import java.util.regex.Pattern;
import javax.tools.JavaCompiler;
import javax.tools.ToolProvider;

/**
 * README.md: its examples are compiled as they stand there, and each call that they show must answer what stands
 * behind it: "x.count(0);  // 3: bearings" or "x.drop(0);  // NULL". Its tables must tell what a refused call answers.
 * The page is the only argument; it is README.md in the project's root without one.
 */
public final class ReadmeTest {
    private static final Pattern SHOWN = Pattern.compile("(x\\.(\\w+)\\(.*\\));\\s*// (-?\\d+|[A-Z]+)(:.*)?");
    private static final Pattern OF_X = Pattern.compile("\\bx\\.(\\w+)\\(");
    private static final Pattern CONSTANT = Pattern.compile("\\| `([A-Z]+)` \\| (-\\d+) \\|.*");
    private static final Pattern LESS = Pattern.compile("\\| (`.*`) \\| these numbers less (\\d+).*");
    private static final String EXAMPLES = "Examples";

    private static final TreeSet<String> calls = new TreeSet<>();
    private static int compared = 0;
    private static int wrong = 0;

    private ReadmeTest() {
    }

    public static void main(String[] args) throws IOException, ReflectiveOperationException {
        List<String> page = Files.readAllLines(Path.of(args.length > 0 ? args[0] : "README.md"), StandardCharsets.UTF_8);
        examples(page);
        constants(page);
        refusals(page);
        System.out.println(compared + " answers of README.md compared, " + wrong + " wrong");
        if (wrong != 0) {
            System.exit(1);
        }
    }

    private static void fail(String what) {
        wrong++;
        System.out.println("README.md: " + what);
    }

    /** The examples call it. */
    public static void due(String call, long got, long due) {
        compared++;
        if (got != due) {
            fail(call + " answered " + got + ", the page gives " + due);
        }
    }

    private static List<Method> face() {
        List<Method> all = new ArrayList<>();
        for (Method method : ShaftLine.class.getDeclaredMethods()) {
            if (Modifier.isPublic(method.getModifiers())) {
                all.add(method);
            }
        }
        return all;
    }

    private static void examples(List<String> page) throws IOException, ReflectiveOperationException {
        StringBuilder source = new StringBuilder("public final class " + EXAMPLES + " {\n    public static void all() {\n");
        int blocks = 0;
        boolean inside = false;
        for (String line : page) {
            if (line.equals("```java")) {
                inside = true;
                blocks++;
                source.append("{\n");
            } else if (inside && line.equals("```")) {
                inside = false;
                source.append("}\n");
            } else if (inside) {
                source.append(statement(line)).append('\n');
            }
        }
        source.append("    }\n}\n");
        if (blocks == 0) {
            fail("it has no examples");
        }
        for (Method method : face()) {
            if (!calls.contains(method.getName())) {
                fail("it does not show " + method.getName());
            }
        }
        run(source.toString());
    }

    /** A line of an example: a call with the answer that is given is compared; only within a loop it may stand without. */
    private static String statement(String line) {
        Matcher shown = SHOWN.matcher(line);
        if (shown.matches()) {
            calls.add(shown.group(2));
            String due = shown.group(3);
            String value = Character.isLetter(due.charAt(0)) ? "ShaftLine." + due : due + "L";
            String text = shown.group(1).replace("\\", "\\\\").replace("\"", "\\\"");
            return "ReadmeTest.due(\"" + text + "\", " + shown.group(1) + ", " + value + ");";
        }
        boolean isLoops = line.startsWith(" ") && !line.contains("//");
        if (OF_X.matcher(line).find() && !isLoops) {
            fail("it gives no answer of '" + line + "'");
        }
        return line;
    }

    private static void run(String source) throws IOException, ReflectiveOperationException {
        JavaCompiler compiler = ToolProvider.getSystemJavaCompiler();
        if (compiler == null) {
            fail("there is no compiler for its examples");
            return;
        }
        Path directory = Files.createTempDirectory("readme");
        Path file = directory.resolve(EXAMPLES + ".java");
        try {
            Files.writeString(file, source, StandardCharsets.UTF_8);
            int fault = compiler.run(null, null, null, "-encoding", "UTF-8", "--release", "17", "-cp",
                System.getProperty("java.class.path"), "-d", directory.toString(), file.toString());
            if (fault != 0) {
                fail("its examples can't be compiled");
                return;
            }
            try (URLClassLoader loader = new URLClassLoader(new URL[] {directory.toUri().toURL()},
                ReadmeTest.class.getClassLoader())) {
                loader.loadClass(EXAMPLES).getMethod("all").invoke(null);
            } catch (InvocationTargetException e) {
                fail("an example threw " + e.getCause());
            }
        } finally {
            File[] made = directory.toFile().listFiles();
            for (File each : made == null ? new File[0] : made) {
                each.delete();
            }
            directory.toFile().delete();
        }
    }

    private static void constants(List<String> page) throws ReflectiveOperationException {
        TreeSet<String> told = new TreeSet<>();
        for (String line : page) {
            Matcher row = CONSTANT.matcher(line);
            if (row.matches()) {
                told.add(row.group(1));
                due(row.group(1), ShaftLine.class.getField(row.group(1)).getInt(null), Long.parseLong(row.group(2)));
            }
        }
        if (told.size() != ShaftLine.class.getFields().length) {
            fail("it tells of the constants " + told);
        }
    }

    /** Each call with a number that can't be: BAD, less what the page says of it. */
    private static void refusals(List<String> page) throws ReflectiveOperationException {
        Map<String, Long> less = new LinkedHashMap<>();
        for (String line : page) {
            Matcher row = LESS.matcher(line);
            if (row.matches()) {
                for (String name : row.group(1).replace("`", "").split(", ")) {
                    less.put(name, Long.parseLong(row.group(2)));
                }
            }
        }
        int found = 0;
        for (Method method : face()) {
            if (method.getParameterCount() > 0) {
                Object[] arguments = new Object[method.getParameterCount()];
                for (int k = 0; k < arguments.length; k++) {
                    if (method.getParameterTypes()[k] == long.class) {
                        arguments[k] = -7L;
                    } else {
                        arguments[k] = -7;
                    }
                }
                found += less.containsKey(method.getName()) ? 1 : 0;
                long due = ShaftLine.BAD - less.getOrDefault(method.getName(), 0L);
                long got = ((Number) method.invoke(new ShaftLine(), arguments)).longValue();
                due(method.getName() + " of " + Arrays.toString(arguments), got, due);
            }
        }
        if (less.isEmpty() || found != less.size()) {
            fail("it tells of refusals of calls that are none: " + less.keySet());
        }
    }
}
