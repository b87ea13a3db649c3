import java.io.IOException;
import java.lang.reflect.Constructor;
import java.lang.reflect.Field;
import java.lang.reflect.Method;
import java.lang.reflect.Modifier;
import java.nio.file.Files;
import java.nio.file.Path;
import java.util.ArrayList;
import java.util.Arrays;
import java.util.List;
import java.util.TreeSet;
import java.util.regex.Matcher;
import java.util.regex.Pattern;

/** The face of the document, and what of ../shared/LANGUAGE.md can be seen from outside. Runs in the project's root. */
public final class LanguageTest {
    private static final String[] FACE = {"int bearing(int,int)", "int remove(int)", "int offset(int,int)",
        "int weight(int,int)", "int stiffness(int)", "int rise(int,int,int)", "int rises(int,int,int,int,int)",
        "int type(long,int)", "int read()", "int told(int,int)", "int count(int)", "long load(int,int,int)",
        "int lifted(int)", "long high(int,int,int)", "long through(int,int,int)", "long table(int,int,int)",
        "long coupling(int,int,int,int)", "long jack(int,int,int,int)", "int bounds(int,int)", "int fits(int)",
        "int plan(int)", "int move(int,int)", "int reading(int,int)", "int closes()", "int mended(int)",
        "int run(int)", "int whirl()", "int sheet(int,int,int)", "int drop(int)", "int item(int,int,int,int)",
        "int copy(int,int,int,int,int)"};
    private static final String[] CONSTANTS = {"BAD", "NOT", "FULL", "NONE", "NULL", "CAST", "INDEX", "SIZE"};
    /** Words that the class needs nowhere: it makes nothing behind its constructor and throws nothing. */
    private static final String[] UNUSED = {"import", "package", "throw", "try", "catch", "finally", "synchronized",
        "assert", "instanceof", "double", "float", "String", "System.out", "Object", "while", "do", "record", "enum"};
    /** Of the library that rule 4 leaves, what the class uses. */
    private static final List<String> LIBRARY = List.of("Math.abs", "Math.max", "Math.min", "Integer.bitCount",
        "System.arraycopy");
    private static int wrong = 0;

    public static void main(String[] args) throws IOException {
        face();
        members(ShaftLine.class);
        for (Class<?> inside : ShaftLine.class.getDeclaredClasses()) {
            due(inside + " is private or package-visible, and static",
                !Modifier.isPublic(inside.getModifiers()) && !Modifier.isProtected(inside.getModifiers())
                && Modifier.isStatic(inside.getModifiers()));
            members(inside);
        }
        due("classes", ShaftLine.class.getDeclaredClasses().length < 12);
        source(Files.readString(Path.of("src/main/java/ShaftLine.java")));
        System.out.println(wrong == 0 ? "the language is kept" : wrong + " rules are not kept");
        if (wrong != 0) {
            System.exit(1);
        }
    }

    private static void due(String what, boolean holds) {
        if (!holds) {
            wrong++;
            System.out.println("not so: " + what);
        }
    }

    private static void face() {
        due("the class is public and final", Modifier.isPublic(ShaftLine.class.getModifiers())
            && Modifier.isFinal(ShaftLine.class.getModifiers()));
        TreeSet<String> found = new TreeSet<>();
        for (Method m : ShaftLine.class.getDeclaredMethods()) {
            if (!Modifier.isPrivate(m.getModifiers()) && !m.isSynthetic()) {
                StringBuilder text = new StringBuilder(m.getReturnType() + " " + m.getName() + "(");
                for (Class<?> type : m.getParameterTypes()) {
                    text.append(text.charAt(text.length() - 1) == '(' ? "" : ",").append(type);
                }
                found.add(text + ")");
                due(m + " is public and no more", m.getModifiers() == Modifier.PUBLIC);
            }
        }
        due("the methods " + found, found.equals(new TreeSet<>(Arrays.asList(FACE))));
        TreeSet<String> constants = new TreeSet<>();
        for (Field f : ShaftLine.class.getDeclaredFields()) {
            if (!Modifier.isPrivate(f.getModifiers())) {
                constants.add(f.getName());
                due(f + " is a constant", Modifier.isStatic(f.getModifiers()) && Modifier.isFinal(f.getModifiers())
                    && f.getType() == int.class);
            }
        }
        due("the constants " + constants, constants.equals(new TreeSet<>(Arrays.asList(CONSTANTS))));
        Constructor<?>[] all = ShaftLine.class.getDeclaredConstructors();
        due("one constructor", all.length == 1 && all[0].getParameterCount() == 0
            && Modifier.isPublic(all[0].getModifiers()));
    }

    private static void members(Class<?> of) {
        int fields = 0;
        for (Field f : of.getDeclaredFields()) {
            if (Modifier.isStatic(f.getModifiers())) {
                due(f + " is final", Modifier.isFinal(f.getModifiers()));
            } else {
                fields++;
            }
        }
        due(of + " has some twenty fields, not " + fields, fields <= 20);
        for (Method m : of.getDeclaredMethods()) {
            due(m + " takes at most seven", m.getParameterCount() <= 7);
            boolean ofTheFace = of == ShaftLine.class && Modifier.isPublic(m.getModifiers());
            for (String face : FACE) {
                due(m + " bears a name of the face", ofTheFace || !face.contains(" " + m.getName() + "("));
            }
        }
    }

    private static void source(String whole) {
        String text = whole.replaceAll("(?s)/\\*.*?\\*/", "").replaceAll("//[^\n]*", "");
        for (String word : UNUSED) {
            due("the word " + word + " is not there", !Pattern.compile("\\b" + word + "\\b").matcher(text).find());
        }
        due("no lambda, no method reference", !text.contains("->") && !text.contains("::"));
        Matcher called = Pattern.compile("\\b([A-Z]\\w*\\.\\w+)\\s*\\(").matcher(text);
        while (called.find()) {
            due(called.group(1) + " is in the library", LIBRARY.contains(called.group(1)));
        }
        Matcher made = Pattern.compile("[^\n]*\\bnew\\b[^\n]*").matcher(text);
        List<String> outside = new ArrayList<>();
        while (made.find()) {
            if (!made.group().contains("final") && !made.group().contains("sheets[k] = new Sheet();")) {
                outside.add(made.group().strip());
            }
        }
        due("nothing is made but with the object: " + outside, outside.isEmpty());
        int begun = -1;
        String[] lines = whole.split("\n", -1);
        for (int k = 0; k < lines.length; k++) {
            if (lines[k].matches(" {4}( {4})?[a-z].*\\) \\{")) {
                begun = k;
            }
            if (lines[k].matches(" {4}( {4})?\\}") && begun >= 0) {
                due("the method at line " + (begun + 1) + " is short", k - begun < 60);
                begun = -1;
            }
        }
        for (int k = 0; k < whole.length(); k++) {
            due("sign " + (int) whole.charAt(k), whole.charAt(k) < 127);
        }
    }
}
