import java.lang.reflect.InvocationTargetException;
import java.lang.reflect.Method;
import java.util.Arrays;
import java.util.Comparator;

/** What the tests share: comparing answers, typing texts, and running test methods by name. */
final class Check {
    /** A call of the face; a boolean counts 1 or 0. */
    interface Call {
        long answer();
    }

    static final String LETTERS = "abcdefghijklmnopqrstuvwxyzABCDEFGHIJKLMNOPQRSTUVWXYZ01234567";

    private static int faults = 0;
    private static String current = "";

    private Check() {
    }

    static void due(String what, long got, long want) {
        if (got != want) {
            faults++;
            System.out.println(current + ": " + what + " answered " + got + ", due is " + want);
        }
    }

    static void due(String what, boolean got, boolean want) {
        due(what, got ? 1 : 0, want ? 1 : 0);
    }

    static void dueText(String what, String got, String want) {
        if (!got.equals(want)) {
            faults++;
            System.out.println(current + ": " + what + " answered " + got + ", due is " + want);
        }
    }

    static void throwsOut(String what, Class<? extends RuntimeException> want, Call call) {
        dueText(what, outcome(call), "throws." + want.getSimpleName());
    }

    static String outcome(Call call) {
        try {
            return String.valueOf(call.answer());
        } catch (RuntimeException e) {
            return "throws." + e.getClass().getSimpleName();
        }
    }

    /** Types a text of any length up to the buffer's, eight characters a call. */
    static void type(RevisionVault vault, String text) {
        for (int from = 0; from < text.length(); from += 8) {
            due("type", vault.type(pack(text.substring(from, Math.min(from + 8, text.length())))),
                    true);
        }
    }

    static long pack(String upToEight) {
        long eight = 0;
        for (int k = 0; k < upToEight.length(); k++) {
            eight = eight << 8 | upToEight.charAt(k);
        }
        return eight;
    }

    static int append(RevisionVault vault, int r, String text, int p1, int p2) {
        vault.wipe();
        type(vault, text);
        return vault.append(r, p1, p2);
    }

    /** A vault whose repository r has these texts, each the first parent of the next, committed. */
    static RevisionVault vaultWith(int r, String... texts) {
        RevisionVault vault = new RevisionVault();
        due("begin", vault.begin(r), 0);
        for (int n = 0; n < texts.length; n++) {
            due("append", append(vault, r, texts[n], n - 1, -1), n);
        }
        due("commit", vault.commit(r), 0);
        vault.wipe();
        return vault;
    }

    /** A vault whose repository 0 is DOWN, with a journal and one revision "ab". */
    static RevisionVault vaultDown() {
        RevisionVault vault = vaultWith(0, "ab");
        vault.begin(0);
        vault.fail(0, 1);
        due("commit that fails", vault.commit(0), -2);
        return vault;
    }

    /** DATA of r has so many bytes, in whole texts, none a base for another; a journal is open. */
    static RevisionVault vaultFilled(int r, int bytes) {
        RevisionVault vault = new RevisionVault();
        vault.begin(r);
        int left = bytes;
        for (int n = 0; left > 0; n++) {
            String text = turned(n).substring(0, Math.min(60, left - 1));
            due("append", append(vault, r, text, -1, -1), n);
            left -= text.length() + 1;
        }
        due("bytes", vault.data(r, -1), bytes);
        return vault;
    }

    /** The letters from another one on: no two of these have a beginning or an end in common. */
    static String turned(int n) {
        return LETTERS.substring(n * 5) + LETTERS.substring(0, n * 5);
    }

    static String repeat(char c, int count) {
        return String.valueOf(c).repeat(count);
    }

    static String bytes(int... codes) {
        StringBuilder text = new StringBuilder();
        for (int code : codes) {
            text.append((char) code);
        }
        return text.toString();
    }

    /** What the buffer holds, seen by appending it in repository 1, which is rolled back. */
    static String bufferOf(RevisionVault vault) {
        vault.begin(1);
        int n = vault.append(1, -1, -1);
        String text = textOf(vault, 1, n);
        vault.abort(1);
        return text;
    }

    /** Damages byte k of repository 0 so that it becomes the value. */
    static void put(RevisionVault vault, int k, int value) {
        int x = vault.data(0, k) ^ value;
        due("damage", x == 0 || vault.damage(0, k, x), true);
    }

    static String textOf(RevisionVault vault, int r, int n) {
        StringBuilder text = new StringBuilder();
        int length = vault.record(r, n, 2);
        for (int k = 0; k < length; k++) {
            text.append((char) vault.text(r, n, k));
        }
        return text.toString();
    }

    static String chunkOf(RevisionVault vault, int r, int n) {
        StringBuilder chunk = new StringBuilder();
        int offset = vault.record(r, n, 0);
        for (int k = 0; k < vault.record(r, n, 1); k++) {
            chunk.append((char) vault.data(r, offset + k));
        }
        return chunk.toString();
    }

    /** All that the questions tell of a repository, for "changes nothing". */
    static String stateOf(RevisionVault vault, int r) {
        StringBuilder state = new StringBuilder();
        int revisions = vault.revisions(r);
        state.append(revisions).append(':');
        for (int n = 0; n < revisions; n++) {
            for (int field = 0; field < 6; field++) {
                state.append(vault.record(r, n, field)).append(',');
            }
            state.append(vault.node(r, n)).append(';');
        }
        int bytes = vault.data(r, -1);
        for (int k = -1; k < bytes; k++) {
            state.append(vault.data(r, k)).append(' ');
        }
        return state.toString();
    }

    /** Runs every static method whose name begins with the prefix; ends the program. */
    static void runAll(Class<?> tests, String prefix) {
        Method[] methods = tests.getDeclaredMethods();
        Arrays.sort(methods, Comparator.comparing(Method::getName));
        int ran = 0;
        for (Method method : methods) {
            if (method.getName().startsWith(prefix) && method.getParameterCount() == 0) {
                current = method.getName();
                runOne(method);
                ran++;
            }
        }
        System.out.println(tests.getName() + ": " + ran + " tests, " + faults + " wrong answers");
        System.exit(faults == 0 && ran > 0 ? 0 : 1);
    }

    private static void runOne(Method method) {
        try {
            method.setAccessible(true);
            method.invoke(null);
        } catch (InvocationTargetException e) {
            faults++;
            System.out.println(current + ": " + e.getCause());
            e.getCause().printStackTrace(System.out);
        } catch (IllegalAccessException e) {
            faults++;
            System.out.println(current + ": " + e);
        }
    }
}
