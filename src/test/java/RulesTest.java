import java.io.IOException;
import java.lang.reflect.Field;
import java.lang.reflect.Method;
import java.lang.reflect.Modifier;
import java.nio.file.Files;
import java.nio.file.Path;
import java.util.ArrayList;
import java.util.List;
import java.util.regex.Matcher;
import java.util.regex.Pattern;

/** The rules of LANGUAGE.md that can be seen in the program's text; run from the project's root. */
final class RulesTest {
    private static final Path PROGRAM = Path.of("src/main/java/RevisionVault.java");
    private static final int LONGEST_METHOD = 60;
    private static final int MOST_CLASSES = 12;
    private static final int MOST_FIELDS = 20;
    private static final int MOST_PARAMETERS = 7;
    private static final String[] FORBIDDEN = {"->", "::", "\\bfinally\\b", "\\bsynchronized\\b",
        "\\bassert\\b", "\\bstatic\\s*\\{", "\\bpackage\\b", "\\bvar\\b", "\\bthrow e\\b",
        "getMessage", "\\bhashCode\\b", "\\btoString\\b", "Exact\\("};
    private static final Pattern IMPORT = Pattern.compile("^import (.*);$");
    private static final Pattern THROWN = Pattern.compile("throw new (\\w+)\\(\\)");

    public static void main(String[] args) {
        Check.runAll(RulesTest.class, "rules");
    }

    private static List<String> lines() {
        try {
            return Files.readAllLines(PROGRAM);
        } catch (IOException e) {
            throw new IllegalStateException(e);
        }
    }

    private static String code() {
        return String.join("\n", lines()).replaceAll("(?s)/\\*.*?\\*/", "")
                .replaceAll("//[^\n]*", "");
    }

    static void rulesLeaveOutWhatTheyForbid() {
        String code = code();
        for (String words : FORBIDDEN) {
            Check.due("places with " + words, Pattern.compile(words).matcher(code).results().count(),
                    0);
        }
    }

    static void rulesImportArraysAlone() {
        for (String line : lines()) {
            Matcher matcher = IMPORT.matcher(line);
            if (matcher.matches()) {
                Check.dueText("import", matcher.group(1), "java.util.Arrays");
            }
        }
    }

    static void rulesThrowWithoutTexts() {
        String code = code();
        long all = Pattern.compile("\\bthrow\\b").matcher(code).results().count();
        Check.due("throws of a known form", THROWN.matcher(code).results().count(), all);
    }

    static void rulesKeepClassesSmall() {
        List<Class<?>> classes = new ArrayList<>(List.of(RevisionVault.class.getDeclaredClasses()));
        classes.add(RevisionVault.class);
        Check.due("few classes", classes.size() <= MOST_CLASSES, true);
        for (Class<?> each : classes) {
            int fields = 0;
            for (Field field : each.getDeclaredFields()) {
                fields += Modifier.isStatic(field.getModifiers()) ? 0 : 1;
            }
            Check.due(each + " has few fields", fields <= MOST_FIELDS, true);
            for (Method method : each.getDeclaredMethods()) {
                Check.due(method + " has few parameters",
                        method.getParameterCount() <= MOST_PARAMETERS, true);
            }
        }
    }

    /** A method begins at a line that ends in ") {" and ends at a brace of the same depth. */
    static void rulesKeepMethodsShort() {
        List<String> lines = lines();
        for (int k = 0; k < lines.size(); k++) {
            String line = lines.get(k);
            String margin = line.substring(0, line.length() - line.stripLeading().length());
            boolean method = (margin.length() == 4 || margin.length() == 8) && line.endsWith(") {");
            if (method) {
                int end = k;
                while (end < lines.size() && !lines.get(end).equals(margin + "}")) {
                    end++;
                }
                Check.due(line + " is short", end - k < LONGEST_METHOD, true);
            }
        }
    }
}
