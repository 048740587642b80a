import java.util.ArrayList;
import java.util.List;

/**
 * "A call that throws or is refused changes nothing." Two vaults are made alike, one of them gets
 * the call, and from then on both must answer alike: the buffer, the files, the journals and what
 * they would roll back to, who is DOWN, and at which WRITE a told failure comes.
 */
final class UnchangedTest {
    private static final String NO_SUCH = "throws.IndexOutOfBoundsException";
    private static final String BAD_STATE = "throws.IllegalStateException";
    private static final String BAD_PARENT = "throws.IllegalArgumentException";
    private static final String REFUSED = "throws.UnsupportedOperationException";
    private static final int[] NO_REPOSITORY = {-1, 2, Integer.MIN_VALUE, Integer.MAX_VALUE};
    private static final int PROBES = 11;
    // A probe stays within an object's 512 calls.
    private static final int BYTES_A_PROBE = 101;

    private interface Setup {
        RevisionVault make();
    }

    private interface Call {
        long on(RevisionVault vault);
    }

    public static void main(String[] args) {
        Check.runAll(UnchangedTest.class, "unchanged");
    }

    // Comparing ----------------------------------------------------------------------------------

    private static long number(boolean answer) {
        return answer ? 1 : 0;
    }

    private static void dueUnchanged(String what, String want, Setup setup, Call call) {
        for (int probe = 0; probe < PROBES; probe++) {
            RevisionVault asked = setup.make();
            Check.dueText(what, Check.outcome(() -> call.on(asked)), want);
            Check.dueText(what + ", then by probe " + probe, said(asked, probe),
                    said(setup.make(), probe));
        }
    }

    private static boolean seesChange(Setup setup, Call call) {
        boolean seen = false;
        for (int probe = 0; probe < PROBES; probe++) {
            RevisionVault asked = setup.make();
            call.on(asked);
            seen |= !said(asked, probe).equals(said(setup.make(), probe));
        }
        return seen;
    }

    private static String said(RevisionVault vault, int probe) {
        List<String> answers = new ArrayList<>();
        if (probe < 6) {
            readBytes(vault, probe * BYTES_A_PROBE, answers);
        } else if (probe == 6) {
            readRecords(vault, 0, answers);
        } else if (probe == 7) {
            readRecords(vault, 1, answers);
        } else if (probe == 8) {
            readBuffer(vault, answers);
        } else if (probe == 9) {
            rollBackAll(vault, answers);
        } else {
            countWritesToFailure(vault, answers);
        }
        return answers.toString();
    }

    private static void ask(List<String> answers, Check.Call call) {
        answers.add(Check.outcome(call));
    }

    private static void readBytes(RevisionVault vault, int from, List<String> answers) {
        for (int r = 0; r < 2; r++) {
            int at = r;
            ask(answers, () -> vault.data(at, -1));
            for (int k = from; k < from + BYTES_A_PROBE; k++) {
                int place = k;
                ask(answers, () -> vault.data(at, place));
            }
        }
    }

    private static void readRecords(RevisionVault vault, int r, List<String> answers) {
        ask(answers, () -> vault.revisions(r));
        ask(answers, () -> vault.wrong(r));
        ask(answers, () -> vault.heads(r));
        for (int n = 0; n < 24; n++) {
            int at = n;
            ask(answers, () -> vault.node(r, at));
            ask(answers, () -> vault.text(r, at, 0));
            for (int field = 0; field < 6; field++) {
                int number = field;
                ask(answers, () -> vault.record(r, at, number));
            }
        }
    }

    /** The node of what is appended tells the buffer; typing tells how much of it is free. */
    private static void readBuffer(RevisionVault vault, List<String> answers) {
        for (int r = 0; r < 2; r++) {
            int at = r;
            vault.fail(r, 0);
            ask(answers, () -> vault.recover(at, 0));
            ask(answers, () -> vault.abort(at));
            ask(answers, () -> vault.begin(at));
            ask(answers, () -> vault.append(at, -1, -1));
            int latest = vault.revisions(r) - 1;
            ask(answers, () -> vault.node(at, latest));
        }
        for (int k = 0; k < 61; k++) {
            ask(answers, () -> number(vault.type('q')));
        }
    }

    private static void rollBackAll(RevisionVault vault, List<String> answers) {
        for (int r = 0; r < 2; r++) {
            int at = r;
            ask(answers, () -> number(vault.fail(at, 0)));
            ask(answers, () -> vault.abort(at));
            ask(answers, () -> vault.commit(at));
            ask(answers, () -> vault.recover(at, 0));
            ask(answers, () -> vault.revisions(at));
            ask(answers, () -> vault.data(at, -1));
            ask(answers, () -> vault.commit(at));
            ask(answers, () -> vault.begin(at));
        }
    }

    /** As many transactions as there can be before a failure comes at the 100th WRITE. */
    private static void countWritesToFailure(RevisionVault vault, List<String> answers) {
        for (int r = 0; r < 2; r++) {
            int at = r;
            for (int k = 0; k < 51; k++) {
                ask(answers, () -> vault.commit(at));
                ask(answers, () -> vault.begin(at));
            }
        }
    }

    // What the calls are made on -----------------------------------------------------------------

    /** No journal; failures are told for both; the buffer has nine characters. */
    private static RevisionVault idle() {
        RevisionVault vault = Check.vaultWith(0, "abcdefghij", "abcdefghijk", "zzzzz");
        vault.begin(1);
        Check.append(vault, 1, "its own", -1, -1);
        vault.commit(1);
        vault.wipe();
        Check.type(vault, "left over");
        vault.fail(0, 20);
        vault.fail(1, 30);
        return vault;
    }

    /** Both are in a transaction that has two and one revisions so far. */
    private static RevisionVault busy() {
        RevisionVault vault = idle();
        vault.begin(0);
        vault.append(0, 2, -1);
        Check.append(vault, 0, "left over!", 3, 0);
        vault.begin(1);
        vault.append(1, -1, 0);
        return vault;
    }

    /** Like busy, and r is DOWN, with its journal. */
    private static RevisionVault down(int r) {
        RevisionVault vault = busy();
        vault.fail(r, 1);
        Check.due("commit", vault.commit(r), -2);
        return vault;
    }

    /** Like idle, and r is DOWN, without a journal. */
    private static RevisionVault downWithoutJournal(int r) {
        RevisionVault vault = idle();
        vault.fail(r, 1);
        Check.due("begin", vault.begin(r), -2);
        return vault;
    }

    private static RevisionVault holding(String text) {
        RevisionVault vault = busy();
        vault.wipe();
        Check.type(vault, text);
        return vault;
    }

    private static RevisionVault withRecords(int r, int count) {
        RevisionVault vault = new RevisionVault();
        vault.begin(r);
        for (int n = 0; n < count; n++) {
            vault.append(r, n - 1, -1);
        }
        return vault;
    }

    // Each call ----------------------------------------------------------------------------------

    /** What the tests below stand on: each kind of change is seen. */
    static void unchangedWouldSeeEachChange() {
        Call[] onBusy = {
            vault -> number(vault.type('q')), vault -> {
                vault.wipe();
                return 0;
            }, vault -> vault.append(0, 1, 1), vault -> vault.append(1, 0, 0),
            vault -> vault.commit(0), vault -> vault.commit(1), vault -> vault.abort(0),
            vault -> vault.abort(1), vault -> number(vault.fail(0, 0)),
            vault -> number(vault.fail(0, 16)), vault -> number(vault.fail(1, 28)),
            vault -> number(vault.damage(0, 0, 1)), vault -> number(vault.damage(1, 0, 1)),
        };
        for (int k = 0; k < onBusy.length; k++) {
            Check.due("change " + k, seesChange(UnchangedTest::busy, onBusy[k]), true);
        }
        Check.due("begin", seesChange(UnchangedTest::idle, vault -> vault.begin(0)), true);
        Check.due("pull", seesChange(UnchangedTest::idle, vault -> vault.pull(1)), true);
        Check.due("one WRITE more to the failure",
                seesChange(UnchangedTest::idle, vault -> number(vault.fail(0, 21))), true);
        Check.due("recover", seesChange(() -> down(0), vault -> vault.recover(0, 0)), true);
        Check.due("recover that fails late", seesChange(() -> down(1),
                vault -> vault.recover(1, 3)), true);
    }

    /** What is due on an idle vault is what the tests below compare with: fixed once by hand. */
    static void unchangedProbesSayWhatIsThere() {
        RevisionVault vault = busy();
        vault.fail(0, 0);
        vault.fail(1, 0);
        Check.due("revisions of 0", vault.revisions(0), 5);
        Check.due("revisions of 1", vault.revisions(1), 2);
        Check.due("abort of 0", vault.abort(0), 2);
        Check.due("abort of 1", vault.abort(1), 1);
    }

    static void unchangedByTypeThatIsRefused() {
        for (int code : new int[] {1, 9, 11, 31, 127, 128, 255}) {
            for (int place = 0; place < 64; place += 8) {
                long eight = 0x6162636465666768L & ~(255L << place) | (long) code << place;
                dueUnchanged("code " + code, "0", UnchangedTest::busy,
                        vault -> number(vault.type(eight)));
            }
        }
        for (int held = 53; held <= 60; held++) {
            String text = Check.LETTERS.substring(0, held);
            String more = Check.LETTERS.substring(0, 61 - held);
            dueUnchanged("61", "0", () -> holding(text),
                    vault -> number(vault.type(Check.pack(more))));
            dueUnchanged("eight more", "0", () -> holding(text),
                    vault -> number(vault.type(0x6162636465666768L)));
        }
    }

    static void unchangedByBeginThatThrows() {
        for (int r : NO_REPOSITORY) {
            dueUnchanged("begin " + r, NO_SUCH, UnchangedTest::idle, vault -> vault.begin(r));
        }
        for (int r = 0; r < 2; r++) {
            int at = r;
            dueUnchanged("a journal", BAD_STATE, UnchangedTest::busy, vault -> vault.begin(at));
            dueUnchanged("DOWN", BAD_STATE, () -> down(at), vault -> vault.begin(at));
            dueUnchanged("DOWN, no journal", BAD_STATE, () -> downWithoutJournal(at),
                    vault -> vault.begin(at));
        }
    }

    static void unchangedByAppendThatThrows() {
        for (int r : NO_REPOSITORY) {
            dueUnchanged("append " + r, NO_SUCH, UnchangedTest::busy,
                    vault -> vault.append(r, -1, -1));
        }
        for (int r = 0; r < 2; r++) {
            int at = r;
            dueUnchanged("no journal", BAD_STATE, UnchangedTest::idle,
                    vault -> vault.append(at, -1, -1));
            dueUnchanged("DOWN", BAD_STATE, () -> down(at), vault -> vault.append(at, -1, -1));
            dueUnchanged("DOWN, no journal", BAD_STATE, () -> downWithoutJournal(at),
                    vault -> vault.append(at, -1, -1));
            int revisions = busy().revisions(r);
            for (int p : new int[] {revisions, -2, Integer.MIN_VALUE, Integer.MAX_VALUE}) {
                dueUnchanged("p1 " + p, BAD_PARENT, UnchangedTest::busy,
                        vault -> vault.append(at, p, -1));
                dueUnchanged("p2 " + p, BAD_PARENT, UnchangedTest::busy,
                        vault -> vault.append(at, 0, p));
            }
        }
    }

    static void unchangedByAppendWithoutRoom() {
        for (int r = 0; r < 2; r++) {
            int at = r;
            for (int failing : new int[] {0, 1, 2, 7}) {
                dueUnchanged("25 records", REFUSED, () -> {
                    RevisionVault vault = withRecords(at, 24);
                    vault.fail(at, failing);
                    return vault;
                }, vault -> vault.append(at, 23, -1));
                dueUnchanged("601 bytes", REFUSED, () -> {
                    RevisionVault vault = Check.vaultFilled(at, 599);
                    vault.wipe();
                    Check.type(vault, "a");
                    vault.fail(at, failing);
                    return vault;
                }, vault -> vault.append(at, -1, -1));
            }
        }
    }

    /** Not refused, but "nothing is done" here either. */
    static void unchangedByAppendOfWhatIsThere() {
        for (int failing : new int[] {0, 1, 2, 7}) {
            dueUnchanged("there already", "3", () -> {
                RevisionVault vault = busy();
                vault.wipe();
                Check.type(vault, "left over");
                vault.fail(0, failing);
                return vault;
            }, vault -> vault.append(0, 2, -1));
        }
    }

    static void unchangedByCommitAndAbortThatThrow() {
        for (int r : NO_REPOSITORY) {
            dueUnchanged("commit " + r, NO_SUCH, UnchangedTest::busy, vault -> vault.commit(r));
            dueUnchanged("abort " + r, NO_SUCH, UnchangedTest::busy, vault -> vault.abort(r));
        }
        for (int r = 0; r < 2; r++) {
            int at = r;
            dueUnchanged("no journal", BAD_STATE, UnchangedTest::idle, vault -> vault.commit(at));
            dueUnchanged("no journal", BAD_STATE, UnchangedTest::idle, vault -> vault.abort(at));
            dueUnchanged("DOWN", BAD_STATE, () -> down(at), vault -> vault.commit(at));
            dueUnchanged("DOWN", BAD_STATE, () -> down(at), vault -> vault.abort(at));
            dueUnchanged("DOWN, no journal", BAD_STATE, () -> downWithoutJournal(at),
                    vault -> vault.commit(at));
            dueUnchanged("DOWN, no journal", BAD_STATE, () -> downWithoutJournal(at),
                    vault -> vault.abort(at));
        }
    }

    static void unchangedByFailThatIsRefused() {
        for (int r : NO_REPOSITORY) {
            dueUnchanged("fail " + r, "0", UnchangedTest::busy, vault -> number(vault.fail(r, 1)));
            dueUnchanged("none " + r, "0", UnchangedTest::busy, vault -> number(vault.fail(r, 0)));
        }
        for (int r = 0; r < 2; r++) {
            int at = r;
            for (int n : new int[] {-1, 101, Integer.MIN_VALUE, Integer.MAX_VALUE}) {
                dueUnchanged("fail at " + n, "0", UnchangedTest::busy,
                        vault -> number(vault.fail(at, n)));
            }
            for (int n = 0; n <= 3; n++) {
                int failing = n;
                dueUnchanged("DOWN", "0", () -> down(at),
                        vault -> number(vault.fail(at, failing)));
                dueUnchanged("DOWN, no journal", "0", () -> downWithoutJournal(at),
                        vault -> number(vault.fail(at, failing)));
            }
        }
    }

    static void unchangedByRecoverThatThrows() {
        for (int r : NO_REPOSITORY) {
            dueUnchanged("recover " + r, NO_SUCH, () -> down(0), vault -> vault.recover(r, 0));
        }
        for (int r = 0; r < 2; r++) {
            int at = r;
            for (int n : new int[] {-1, 4, Integer.MIN_VALUE, Integer.MAX_VALUE}) {
                dueUnchanged("at " + n, NO_SUCH, () -> down(at), vault -> vault.recover(at, n));
                dueUnchanged("at " + n, NO_SUCH, () -> downWithoutJournal(at),
                        vault -> vault.recover(at, n));
                dueUnchanged("UP, at " + n, NO_SUCH, UnchangedTest::busy,
                        vault -> vault.recover(at, n));
            }
            for (int n = 0; n <= 3; n++) {
                int failing = n;
                dueUnchanged("UP", BAD_STATE, UnchangedTest::idle,
                        vault -> vault.recover(at, failing));
                dueUnchanged("UP, a journal", BAD_STATE, UnchangedTest::busy,
                        vault -> vault.recover(at, failing));
                dueUnchanged("the other is DOWN", BAD_STATE, () -> down(1 - at),
                        vault -> vault.recover(at, failing));
            }
        }
    }

    static void unchangedByPullThatThrows() {
        for (int r : NO_REPOSITORY) {
            dueUnchanged("pull " + r, NO_SUCH, UnchangedTest::idle, vault -> vault.pull(r));
        }
        for (int r = 0; r < 2; r++) {
            for (int barred = 0; barred < 2; barred++) {
                int at = r;
                int bar = barred;
                dueUnchanged("a journal", BAD_STATE, () -> {
                    RevisionVault vault = idle();
                    vault.begin(bar);
                    return vault;
                }, vault -> vault.pull(at));
                dueUnchanged("DOWN, no journal", BAD_STATE, () -> downWithoutJournal(bar),
                        vault -> vault.pull(at));
                dueUnchanged("DOWN", BAD_STATE, () -> {
                    RevisionVault vault = down(bar);
                    vault.abort(1 - bar);
                    return vault;
                }, vault -> vault.pull(at));
            }
        }
    }

    /** Three are to come: the last finds no room for a record or for bytes, or is WRONG. */
    static void unchangedByPullThatIsRefused() {
        for (int r = 0; r < 2; r++) {
            int at = r;
            // None told, one at the WRITE that would have been the next, and one far on.
            for (int failing : new int[] {0, 6, 40}) {
                dueUnchanged("25 records", REFUSED, () -> toldFor(at, failing,
                        threeToCome(withRecords(at, 22), at)), vault -> vault.pull(at));
                dueUnchanged("601 bytes", REFUSED, () -> toldFor(at, failing,
                        threeToCome(Check.vaultFilled(at, 592), at)), vault -> vault.pull(at));
                for (int wrong = 0; wrong < 3; wrong++) {
                    int place = 3 * wrong + 1;
                    int told = failing == 6 ? 2 * wrong + 2 : failing;
                    dueUnchanged("WRONG", REFUSED, () -> {
                        RevisionVault vault = threeToCome(Check.vaultFilled(at, 10), at);
                        vault.damage(1 - at, place, 1);
                        return toldFor(at, told, vault);
                    }, vault -> vault.pull(at));
                }
            }
        }
    }

    private static RevisionVault toldFor(int r, int failing, RevisionVault vault) {
        vault.fail(r, failing);
        return vault;
    }

    private static RevisionVault threeToCome(RevisionVault vault, int r) {
        vault.commit(r);
        vault.begin(1 - r);
        Check.append(vault, 1 - r, "!?", -1, -1);
        Check.append(vault, 1 - r, "+-", 0, -1);
        Check.append(vault, 1 - r, "#*", 1, 0);
        vault.commit(1 - r);
        return vault;
    }

    static void unchangedByTextThatThrows() {
        for (int r : NO_REPOSITORY) {
            dueUnchanged("text " + r, NO_SUCH, UnchangedTest::busy, vault -> vault.text(r, 0, 0));
        }
        for (int r = 0; r < 2; r++) {
            int at = r;
            int revisions = busy().revisions(r);
            for (int n : new int[] {-1, revisions, Integer.MIN_VALUE, Integer.MAX_VALUE}) {
                dueUnchanged("n " + n, NO_SUCH, UnchangedTest::busy,
                        vault -> vault.text(at, n, 0));
            }
            dueUnchanged("DOWN", BAD_STATE, () -> down(at), vault -> vault.text(at, 0, 0));
            dueUnchanged("DOWN, no journal", BAD_STATE, () -> downWithoutJournal(at),
                    vault -> vault.text(at, 0, 0));
            dueUnchanged("DOWN, no n", NO_SUCH, () -> down(at), vault -> vault.text(at, 9, 0));
            dueUnchanged("WRONG", REFUSED, () -> {
                RevisionVault vault = busy();
                vault.damage(at, 1, 1);
                return vault;
            }, vault -> vault.text(at, 0, 0));
        }
    }

    static void unchangedByDamageThatIsRefused() {
        for (int r : NO_REPOSITORY) {
            dueUnchanged("damage " + r, "0", UnchangedTest::busy,
                    vault -> number(vault.damage(r, 0, 1)));
        }
        for (int r = 0; r < 2; r++) {
            int at = r;
            int bytes = busy().data(r, -1);
            for (int k : new int[] {-1, bytes, 600, Integer.MIN_VALUE, Integer.MAX_VALUE}) {
                dueUnchanged("byte " + k, "0", UnchangedTest::busy,
                        vault -> number(vault.damage(at, k, 1)));
            }
            for (int x : new int[] {-1, 0, 256, 257, 511, Integer.MIN_VALUE, Integer.MAX_VALUE}) {
                dueUnchanged("x " + x, "0", UnchangedTest::busy,
                        vault -> number(vault.damage(at, 0, x)));
            }
            dueUnchanged("DOWN", "0", () -> down(at), vault -> number(vault.damage(at, 0, 1)));
            dueUnchanged("DOWN, no journal", "0", () -> downWithoutJournal(at),
                    vault -> number(vault.damage(at, 0, 1)));
        }
    }

    /** The byte behind DATA that an abort has left is not there to be damaged either. */
    static void unchangedByDamageOfWhatWent() {
        RevisionVault vault = Check.vaultWith(0, "ab");
        vault.begin(0);
        Check.append(vault, 0, "cd", 0, -1);
        vault.abort(0);
        Check.due("damage", vault.damage(0, 3, 1), false);
        vault.begin(0);
        Check.append(vault, 0, "cd", 0, -1);
        Check.due("byte", vault.data(0, 3), 'u');
        Check.due("wrong", vault.wrong(0), 0);
    }

    /** Questions that are answered, and those that are not. */
    static void unchangedByQuestions() {
        for (Setup setup : new Setup[] {UnchangedTest::idle, UnchangedTest::busy, () -> down(0),
            () -> downWithoutJournal(1)}) {
            for (int r = -1; r <= 2; r++) {
                int at = r;
                for (int n : new int[] {-1, 0, 1, 9}) {
                    dueSame(setup, vault -> vault.record(at, n, 1));
                    dueSame(setup, vault -> vault.record(at, n, 6));
                    dueSame(setup, vault -> vault.node(at, n));
                    dueSame(setup, vault -> vault.data(at, n));
                    dueSame(setup, vault -> vault.common(at, n, 0));
                }
                dueSame(setup, vault -> vault.revisions(at));
                dueSame(setup, vault -> vault.wrong(at));
                dueSame(setup, vault -> vault.heads(at));
            }
            dueSame(setup, vault -> number(vault.type(0)));
        }
    }

    private static void dueSame(Setup setup, Call question) {
        RevisionVault vault = setup.make();
        dueUnchanged("a question", Check.outcome(() -> question.on(vault)), setup, question);
    }
}
