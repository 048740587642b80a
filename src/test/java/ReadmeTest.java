import java.io.IOException;
import java.lang.reflect.InvocationTargetException;
import java.lang.reflect.Method;
import java.lang.reflect.Modifier;
import java.nio.file.Files;
import java.nio.file.Path;
import java.util.ArrayList;
import java.util.List;
import java.util.TreeSet;
import java.util.regex.Matcher;
import java.util.regex.Pattern;
import java.util.stream.Stream;

/**
 * The calls that README.md shows have the answers that stand behind them. They are read out of that
 * file, so that it can't say what the class does not do. Run from the project's root.
 */
final class ReadmeTest {
    private static final Path README = Path.of("README.md");
    private static final Path TESTS = Path.of("src/test/java");
    private static final String MAKING = "RevisionVault vault = new RevisionVault();";
    private static final Pattern WITHOUT_ANSWER = Pattern.compile("vault\\.(wipe)\\(()\\);");
    // The call, its arguments, its answer, and behind a colon what a reader may want to know.
    private static final Pattern WITH_ANSWER = Pattern.compile(
            "vault\\.(\\w+)\\(([^()]*)\\); +// (true|false|-?\\d+|throws \\w+)(?:: .+)?");
    private static final int MOST_CALLS = 512;

    public static void main(String[] args) {
        Check.runAll(ReadmeTest.class, "readme");
    }

    static void readmeShowsTheAnswersThatAreDue() {
        List<List<String>> examples = examples();
        Check.due("examples are there", examples.size() > 0, true);
        for (List<String> example : examples) {
            Check.dueText("an example's first line", example.get(0), MAKING);
            Check.due("few calls", example.size() - 1 <= MOST_CALLS, true);
            RevisionVault vault = new RevisionVault();
            for (String line : example.subList(1, example.size())) {
                Matcher shown = shownCall(line);
                Check.due(line + " can be read", shown != null, true);
                if (shown != null) {
                    String want = shown.groupCount() < 3 ? "null" : shown.group(3);
                    Check.dueText(line, answer(vault, shown.group(1), shown.group(2)), want);
                }
            }
        }
    }

    static void readmeShowsEachCallOfTheFace() {
        TreeSet<String> shown = new TreeSet<>();
        for (List<String> example : examples()) {
            for (String line : example.subList(1, example.size())) {
                Matcher call = shownCall(line);
                if (call != null) {
                    shown.add(call.group(1));
                }
            }
        }
        TreeSet<String> face = new TreeSet<>();
        for (Method method : RevisionVault.class.getDeclaredMethods()) {
            if (Modifier.isPublic(method.getModifiers())) {
                face.add(method.getName());
            }
        }
        Check.dueText("the calls", shown.toString(), face.toString());
    }

    /** The list of tests there: "- `NameTest`: .." for each test of the project, and no other. */
    static void readmeNamesEachTest() throws IOException {
        TreeSet<String> named = new TreeSet<>();
        Pattern item = Pattern.compile("- `(\\w+Test)`: .*");
        for (String line : lines()) {
            Matcher matcher = item.matcher(line);
            if (matcher.matches()) {
                named.add(matcher.group(1) + ".java");
            }
        }
        TreeSet<String> there = new TreeSet<>();
        try (Stream<Path> files = Files.list(TESTS)) {
            files.map(file -> file.getFileName().toString())
                    .filter(name -> name.endsWith("Test.java")).forEach(there::add);
        }
        Check.dueText("the tests", named.toString(), there.toString());
        Check.due("how they are run", lines().contains("    .ci/run"), true);
        Check.due("that is there", Files.isExecutable(Path.of(".ci/run")), true);
    }

    /** A test of this test: each kind of answer is told from another one. */
    static void readmeWouldSeeAWrongAnswer() {
        RevisionVault vault = new RevisionVault();
        Check.dueText("a boolean", answer(vault, "type", "0x61"), "true");
        Check.dueText("a refusal", answer(vault, "type", "0x7fL"), "false");
        Check.dueText("a number", answer(vault, "begin", "0"), "0");
        Check.dueText("a revision", answer(vault, "append", "0, -1, -1"), "0");
        Check.dueText("a throw", answer(vault, "begin", "0"), "throws IllegalStateException");
        Check.dueText("nothing", answer(vault, "wipe", ""), "null");
        Check.dueText("no call", answer(vault, "wipe", "0"), "no such call");
        Check.due("no answer", shownCall("vault.begin(0);") == null, true);
        Check.due("no number", shownCall("vault.begin(0); // nought") == null, true);
    }

    private static List<String> lines() {
        try {
            return Files.readAllLines(README);
        } catch (IOException e) {
            throw new IllegalStateException(e);
        }
    }

    private static List<List<String>> examples() {
        List<List<String>> examples = new ArrayList<>();
        boolean inside = false;
        for (String line : lines()) {
            if (line.startsWith("```")) {
                inside = line.equals("```java");
                if (inside) {
                    examples.add(new ArrayList<>());
                }
            } else if (inside) {
                examples.get(examples.size() - 1).add(line);
            }
        }
        return examples;
    }

    /** Null when the line is not a call with its answer. */
    private static Matcher shownCall(String line) {
        for (Pattern pattern : new Pattern[] {WITHOUT_ANSWER, WITH_ANSWER}) {
            Matcher matcher = pattern.matcher(line);
            if (matcher.matches()) {
                return matcher;
            }
        }
        return null;
    }

    private static String answer(RevisionVault vault, String name, String arguments) {
        String[] written = arguments.isEmpty() ? new String[0] : arguments.split(", ");
        for (Method method : RevisionVault.class.getDeclaredMethods()) {
            if (Modifier.isPublic(method.getModifiers()) && method.getName().equals(name)
                    && method.getParameterCount() == written.length) {
                return invoke(vault, method, written);
            }
        }
        return "no such call";
    }

    /** As a compiler takes it: without an L it must fit into an int, with one only into a long. */
    private static Object value(String written, Class<?> type) {
        if (type == long.class) {
            return written.endsWith("L")
                    ? Long.decode(written.substring(0, written.length() - 1))
                    : Long.valueOf(Integer.decode(written));
        }
        return Integer.decode(written);
    }

    private static String invoke(RevisionVault vault, Method method, String[] written) {
        Object[] values = new Object[written.length];
        for (int k = 0; k < written.length; k++) {
            values[k] = value(written[k], method.getParameterTypes()[k]);
        }
        try {
            return String.valueOf(method.invoke(vault, values));
        } catch (InvocationTargetException e) {
            return "throws " + e.getCause().getClass().getSimpleName();
        } catch (IllegalAccessException e) {
            return e.toString();
        }
    }
}
