import java.io.IOException;
import java.lang.reflect.Field;
import java.lang.reflect.Method;
import java.lang.reflect.Modifier;
import java.nio.file.Files;
import java.nio.file.Path;
import java.util.ArrayList;
import java.util.List;
import java.util.Set;
import java.util.regex.Matcher;
import java.util.regex.Pattern;

/** Rules of LANGUAGE.md, as far as the words of the program and its compiled classes tell them. */
public final class LanguageTest {
    private static final int MOST_CLASSES = 12;
    private static final int MOST_FIELDS = 20;
    private static final int MOST_PARAMETERS = 7;
    private static final int MOST_LINES = 60;
    private static final String[] RULED_OUT = {"package", "import", "throw", "throws", "try", "catch", "finally",
        "synchronized", "assert", "volatile", "native", "double", "float", "Object", "equals", "hashCode", "toString",
        "Thread", "Random", "random", "\\w+Exact", "->", "::"};
    private static final Set<String> LIBRARY = Set.of("Math.min", "System.arraycopy");

    public static void main(String[] args) throws IOException {
        Calls calls = new Calls();
        String program = Files.readString(Path.of("src/main/java/CellBook.java"));
        String code = program.replaceAll("(?s)/\\*.*?\\*/", "").replaceAll("//[^\n]*", "");
        wordsRuledOut(calls, code);
        library(calls, code);
        shortMethods(calls, code);
        objectsMadeByConstructorsAlone(calls, code);
        List<Class<?>> classes = new ArrayList<>(List.of(CellBook.class.getDeclaredClasses()));
        classes.add(CellBook.class);
        calls.due(classes.size() + " classes: rule 11", classes.size() <= MOST_CLASSES, true);
        for (Class<?> one : classes) {
            fields(calls, one);
            methods(calls, one);
        }
        calls.end();
    }

    /** Rules 2, 3, 4, 6 and 13. */
    private static void wordsRuledOut(Calls calls, String code) {
        for (String word : RULED_OUT) {
            String bounded = Character.isLetter(word.charAt(0)) ? "\\b" + word + "\\b" : word;
            calls.due("'" + word + "' in the program", Pattern.compile(bounded).matcher(code).find(), false);
        }
    }

    /** Rule 4: of the classes of the library only the static functions that stand here are used. */
    private static void library(Calls calls, String code) {
        String classes = "\\b(Math|System|Integer|Long|Arrays|Character|String)\\b(\\.\\w+)?";
        Matcher used = Pattern.compile(classes).matcher(code);
        while (used.find()) {
            calls.due(used.group() + " is of the library that is used", LIBRARY.contains(used.group()), true);
        }
    }

    /** Rule 11: from a method's head to its closing brace. */
    private static void shortMethods(Calls calls, String code) {
        String[] lines = code.split("\n");
        int found = 0;
        for (int from = 0; from < lines.length; from++) {
            if (isHead(lines[from])) {
                int count = linesOf(lines, from);
                calls.due(lines[from].strip() + " has " + count + " lines", count <= MOST_LINES, true);
                found++;
            }
        }
        calls.due(found + " methods were found", found > 30, true);
    }

    /** Rule 12, and the room that all calls of a run share. */
    private static void objectsMadeByConstructorsAlone(Calls calls, String code) {
        String head = "";
        int found = 0;
        for (String line : code.split("\n")) {
            head = isHead(line) ? line.strip() : head;
            if (Pattern.compile("\\bnew\\b").matcher(line).find()) {
                calls.due(line.strip() + " in " + head, head.matches("(public )?[A-Z]\\w*\\(.*"), true);
                found++;
            }
        }
        calls.due(found + " places were found", found > 5, true);
    }

    /** Heads of methods stand in the fourth or eighth column; so do those of loops, but they begin otherwise. */
    private static boolean isHead(String line) {
        return line.matches(" {4}( {4})?\\w[^=]*\\) \\{") && !line.strip().matches("(if|for|while|switch) .*");
    }

    private static int linesOf(String[] lines, int from) {
        String closing = lines[from].replaceAll("\\S.*", "") + "}";
        int to = from;
        while (to < lines.length - 1 && !lines[to].equals(closing)) {
            to++;
        }
        return to - from + 1;
    }

    /** Rules 5 and 11. */
    private static void fields(Calls calls, Class<?> one) {
        int count = 0;
        for (Field field : one.getDeclaredFields()) {
            boolean isStatic = Modifier.isStatic(field.getModifiers());
            count += isStatic ? 0 : 1;
            calls.due(field + " is final or no static one", !isStatic || Modifier.isFinal(field.getModifiers()), true);
        }
        calls.due(one + " has " + count + " fields", count <= MOST_FIELDS, true);
    }

    /** Rule 11. */
    private static void methods(Calls calls, Class<?> one) {
        for (Method method : one.getDeclaredMethods()) {
            calls.due(method + " takes few parameters", method.getParameterCount() <= MOST_PARAMETERS, true);
        }
    }
}
