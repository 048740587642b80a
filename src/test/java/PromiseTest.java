import java.util.TreeSet;

/** Each promise by itself; the number in a method's name is the promise's. */
final class PromiseTest {
    private static final Class<IndexOutOfBoundsException> NO_SUCH = IndexOutOfBoundsException.class;
    private static final Class<IllegalStateException> BAD_STATE = IllegalStateException.class;
    private static final Class<IllegalArgumentException> BAD_PARENT =
            IllegalArgumentException.class;
    private static final Class<UnsupportedOperationException> REFUSED =
            UnsupportedOperationException.class;
    private static final int[] NO_REPOSITORY = {-1, 2, Integer.MIN_VALUE, Integer.MAX_VALUE};

    public static void main(String[] args) {
        Check.runAll(PromiseTest.class, "promise");
    }

    static void promise00EveryPromiseHasATest() {
        TreeSet<Integer> numbers = new TreeSet<>();
        for (java.lang.reflect.Method method : PromiseTest.class.getDeclaredMethods()) {
            if (method.getName().startsWith("promise")) {
                numbers.add(Integer.parseInt(method.getName().substring(7, 9)));
            }
        }
        Check.due("promises with a test", numbers.size(), 20);
    }

    // Promise 1 ----------------------------------------------------------------------------------

    static void promise01NewObjectIsEmpty() {
        RevisionVault vault = new RevisionVault();
        for (int r = 0; r < 2; r++) {
            Check.due("revisions", vault.revisions(r), 0);
            Check.due("data", vault.data(r, -1), 0);
            Check.due("heads", vault.heads(r), 0);
            Check.due("wrong", vault.wrong(r), 0);
            int at = r;
            Check.throwsOut("commit", BAD_STATE, () -> vault.commit(at));
            Check.throwsOut("recover", BAD_STATE, () -> vault.recover(at, 0));
        }
        Check.dueText("buffer", Check.bufferOf(vault), "");
        Check.due("type of 60", fillsWith(new RevisionVault(), 60), true);
        Check.due("type of 61", fillsWith(new RevisionVault(), 61), false);
    }

    static void promise01ObjectsShareNothing() {
        RevisionVault one = Check.vaultWith(0, "ab");
        RevisionVault other = new RevisionVault();
        Check.type(one, "zz");
        Check.due("revisions", other.revisions(0), 0);
        Check.dueText("buffer", Check.bufferOf(other), "");
    }

    private static boolean fillsWith(RevisionVault vault, int count) {
        boolean all = true;
        for (int k = 0; k < count; k++) {
            all &= vault.type('q');
        }
        return all;
    }

    // Promise 2 ----------------------------------------------------------------------------------

    static void promise02TypeGoesFromTheHighestByte() {
        RevisionVault vault = new RevisionVault();
        Check.due("type", vault.type(0x6162636465666768L), true);
        Check.due("type", vault.type(0x0000696A0000006BL), true);
        Check.dueText("buffer", Check.bufferOf(vault), "abcdefghijk");
        Check.due("type zeros", vault.type(0), true);
        Check.dueText("buffer", Check.bufferOf(vault), "abcdefghijk");
    }

    /** "zeros left out": wherever they stand, and however full the buffer is. */
    static void promise02TypeLeavesZerosOut() {
        for (int place = 0; place < 64; place += 8) {
            RevisionVault vault = new RevisionVault();
            Check.type(vault, Check.LETTERS.substring(0, 59));
            Check.due("the 60th at " + place, vault.type((long) 'q' << place), true);
            Check.due("zeros", vault.type(0), true);
            Check.due("the 61st at " + place, vault.type((long) 'q' << place), false);
            Check.dueText("buffer", Check.bufferOf(vault), Check.LETTERS.substring(0, 59) + "q");
        }
        for (int hole = 0; hole < 8; hole++) {
            RevisionVault vault = new RevisionVault();
            Check.due("type", vault.type(0x6162636465666768L & ~(255L << 56 - 8 * hole)), true);
            Check.dueText("buffer", Check.bufferOf(vault),
                    "abcdefgh".substring(0, hole) + "abcdefgh".substring(hole + 1));
        }
    }

    static void promise02TypeTakesTheCharactersAlone() {
        for (int code = 1; code < 256; code++) {
            RevisionVault vault = new RevisionVault();
            boolean character = code == 10 || code >= 32 && code <= 126;
            Check.due("type low " + code, vault.type(code), character);
            Check.due("type high " + code, vault.type((long) code << 56), character);
            Check.dueText("buffer", Check.bufferOf(vault),
                    character ? Check.repeat((char) code, 2) : "");
        }
    }

    static void promise02TypeRefusedChangesNothing() {
        RevisionVault vault = new RevisionVault();
        Check.due("good, then bad", vault.type(0x6162636465666709L), false);
        Check.due("bad, then good", vault.type(0x8062636465666768L), false);
        Check.dueText("buffer", Check.bufferOf(vault), "");
        Check.type(vault, Check.LETTERS.substring(0, 57));
        Check.due("four more", vault.type(Check.pack("wxyz")), false);
        Check.due("three more", vault.type(Check.pack("xyz")), true);
        Check.due("one more", vault.type('a'), false);
        Check.due("none more", vault.type(0), true);
        Check.dueText("buffer", Check.bufferOf(vault), Check.LETTERS.substring(0, 57) + "xyz");
    }

    // Promise 3 ----------------------------------------------------------------------------------

    static void promise03WipeEmptiesTheBuffer() {
        RevisionVault vault = new RevisionVault();
        Check.type(vault, Check.LETTERS);
        vault.wipe();
        Check.dueText("buffer", Check.bufferOf(vault), "");
        Check.type(vault, "new");
        Check.dueText("buffer", Check.bufferOf(vault), "new");
        vault.wipe();
        vault.wipe();
        Check.dueText("buffer", Check.bufferOf(vault), "");
        Check.due("60 again", fillsWith(vault, 60), true);
        Check.due("the 61st", vault.type('q'), false);
    }

    static void promise03WipeLeavesTheRepositories() {
        RevisionVault vault = Check.vaultWith(0, "ab");
        vault.begin(0);
        Check.append(vault, 0, "cd", 0, -1);
        String before = Check.stateOf(vault, 0);
        vault.wipe();
        Check.dueText("state", Check.stateOf(vault, 0), before);
        Check.due("abort", vault.abort(0), 1);
        RevisionVault down = Check.vaultDown();
        down.wipe();
        Check.due("DOWN", down.revisions(0), -2);
    }

    // Promise 4 ----------------------------------------------------------------------------------

    static void promise04BeginOpensOneTransaction() {
        RevisionVault vault = new RevisionVault();
        Check.due("begin", vault.begin(0), 0);
        Check.throwsOut("begin again", BAD_STATE, () -> vault.begin(0));
        Check.due("begin of the other", vault.begin(1), 0);
        Check.due("append", vault.append(0, -1, -1), 0);
        Check.due("commit", vault.commit(0), 0);
        Check.due("begin after commit", vault.begin(0), 0);
        Check.due("abort", vault.abort(0), 0);
        Check.due("begin after abort", vault.begin(0), 0);
        for (int r : NO_REPOSITORY) {
            Check.throwsOut("begin " + r, NO_SUCH, () -> vault.begin(r));
        }
    }

    static void promise04BeginIsAWrite() {
        RevisionVault vault = new RevisionVault();
        vault.fail(0, 1);
        Check.due("begin that fails", vault.begin(0), -2);
        Check.due("revisions", vault.revisions(0), -2);
        Check.throwsOut("begin of one that is DOWN", BAD_STATE, () -> vault.begin(0));
        Check.due("recover without a journal", vault.recover(0, 1), 0);
        Check.throwsOut("no journal was written", BAD_STATE, () -> vault.commit(0));
        Check.due("begin", vault.begin(0), 0);
    }

    static void promise04BeginRefusedCountsNoWrite() {
        RevisionVault vault = new RevisionVault();
        vault.begin(0);
        vault.fail(0, 1);
        Check.throwsOut("begin", BAD_STATE, () -> vault.begin(0));
        Check.due("commit takes the failure", vault.commit(0), -2);
    }

    // Promise 5: append ---------------------------------------------------------------------------

    static void promise05AppendThrowsInTheDocumentsOrder() {
        RevisionVault vault = new RevisionVault();
        for (int r : NO_REPOSITORY) {
            Check.throwsOut("append " + r, NO_SUCH, () -> vault.append(r, 7, 7));
        }
        Check.throwsOut("no journal", BAD_STATE, () -> vault.append(0, 7, 7));
        vault.begin(0);
        Check.throwsOut("p1 0 of none", BAD_PARENT, () -> vault.append(0, 0, -1));
        Check.throwsOut("p2 0 of none", BAD_PARENT, () -> vault.append(0, -1, 0));
        Check.due("append", vault.append(0, -1, -1), 0);
        for (int p : new int[] {1, -2, 24, Integer.MIN_VALUE, Integer.MAX_VALUE}) {
            Check.throwsOut("p1 " + p, BAD_PARENT, () -> vault.append(0, p, -1));
            Check.throwsOut("p2 " + p, BAD_PARENT, () -> vault.append(0, 0, p));
        }
        Check.due("revisions", vault.revisions(0), 1);
        RevisionVault down = Check.vaultDown();
        Check.throwsOut("DOWN", BAD_STATE, () -> down.append(0, 7, 7));
    }

    static void promise05AppendKeepsTheBuffer() {
        RevisionVault vault = new RevisionVault();
        Check.type(vault, "stay");
        vault.begin(0);
        Check.due("append", vault.append(0, -1, -1), 0);
        Check.due("append", vault.append(0, 0, -1), 1);
        Check.dueText("text", Check.textOf(vault, 0, 1), "stay");
        Check.dueText("buffer", Check.bufferOf(vault), "stay");
    }

    static void promise05AppendAnswersTheRevisionThatHasTheNode() {
        RevisionVault vault = Check.vaultWith(0, "one", "two", "six");
        vault.begin(0);
        vault.fail(0, 1);
        Check.due("the same again", Check.append(vault, 0, "two", 0, -1), 1);
        Check.due("parents changed about", vault.append(0, -1, 0), 1);
        Check.due("revisions", vault.revisions(0), 3);
        vault.fail(0, 0);
        Check.due("other parents", vault.append(0, 1, -1), 3);
        Check.due("both parents alike", vault.append(0, 1, 1), 4);
    }

    static void promise05AppendChoosesWholeOrPacked() {
        dueSnapshot("", "u");
        dueSnapshot("a", "ua");
        dueSnapshot("aa", "uaa");
        dueSnapshot("aaa", "x" + Check.bytes(3) + "a");
        dueSnapshot("aabb", "uaabb");
        dueSnapshot("aaabb", "x" + Check.bytes(3) + "a" + Check.bytes(2) + "b");
        dueSnapshot("abcabc", "uabcabc");
        dueSnapshot(Check.LETTERS, "u" + Check.LETTERS);
        dueSnapshot(Check.repeat('\n', 60), "x" + Check.bytes(60, 10));
    }

    private static void dueSnapshot(String text, String chunk) {
        RevisionVault vault = Check.vaultWith(0, text);
        Check.dueText("chunk of " + text, Check.chunkOf(vault, 0, 0), chunk);
        Check.due("base", vault.record(0, 0, 3), -1);
        Check.due("length", vault.record(0, 0, 2), text.length());
        Check.dueText("text", Check.textOf(vault, 0, 0), text);
    }

    static void promise05AppendWritesDifferences() {
        dueDifference("abcdefghij", "abcdXfghij", Check.bytes('d', 4, 5, 1, 'X'));
        dueDifference("abcdefghij", "abcdefghij!", Check.bytes('d', 10, 10, 1, '!'));
        dueDifference("abcdefghij", "!abcdefghij", Check.bytes('d', 0, 0, 1, '!'));
        dueDifference("abcdefghij", "abcghij", Check.bytes('d', 3, 6, 0));
        dueDifference("abcdefghij", "abcdefghij", Check.bytes('d', 10, 10, 0));
        // The beginning is taken first, the end only of what lies behind it.
        dueDifference("abcaXbc1234", "abcabcaXbc1234", Check.bytes('d', 4, 4, 3, 'b', 'c', 'a'));
        dueDifference("qwertyyuiop", "qwertyyyuiop", Check.bytes('d', 7, 7, 1, 'y'));
        dueDifference("qwertyyyuiop", "qwertyyuiop", Check.bytes('d', 7, 8, 0));
    }

    private static void dueDifference(String base, String text, String chunk) {
        RevisionVault vault = Check.vaultWith(0, base, text);
        Check.dueText("chunk of " + text, Check.chunkOf(vault, 0, 1), chunk);
        Check.due("base", vault.record(0, 1, 3), 0);
        Check.due("offset", vault.record(0, 1, 0), vault.record(0, 0, 1));
        Check.dueText("text", Check.textOf(vault, 0, 1), text);
    }

    static void promise05AppendTakesNoDifferenceThatIsNotShorter() {
        RevisionVault vault = Check.vaultWith(0, "abc", "abcd");
        Check.due("5 bytes are not below 5", vault.record(0, 1, 3), -1);
        Check.dueText("chunk", Check.chunkOf(vault, 0, 1), "uabcd");
        vault = Check.vaultWith(0, "abcd", "abcde");
        Check.due("5 bytes are below 6", vault.record(0, 1, 3), 0);
        vault = Check.vaultWith(0, "abcd", "abc");
        Check.due("4 bytes are not below 4", vault.record(0, 1, 3), -1);
        vault = Check.vaultWith(0, "abcde", "abcd");
        Check.due("4 bytes are below 5", vault.record(0, 1, 3), 0);
        // A packed text is what the difference has to be shorter than, if it is the snapshot.
        vault = Check.vaultWith(0, Check.repeat('a', 9), Check.repeat('a', 10));
        Check.due("packed is shorter still", vault.record(0, 1, 3), -1);
        Check.due("size", vault.record(0, 1, 1), 3);
    }

    static void promise05AppendTriesBothParentsAndTheLatest() {
        RevisionVault vault = Check.vaultWith(0, "0123456789", "abcdefghij", "ABCDEFGHIJ");
        vault.begin(0);
        Check.append(vault, 0, "0123456789x", 0, 1);
        Check.due("p1", vault.record(0, 3, 3), 0);
        Check.append(vault, 0, "abcdefghijx", 0, 1);
        Check.due("p2", vault.record(0, 4, 3), 1);
        Check.append(vault, 0, "abcdefghijxy", 0, 2);
        Check.due("the latest", vault.record(0, 5, 3), 4);
        Check.append(vault, 0, "ABCDEFGHIJx", 0, -1);
        Check.due("one that is none of these", vault.record(0, 6, 3), -1);
        Check.append(vault, 0, "ABCDEFGHIJxy", -1, -1);
        Check.due("the latest, without parents", vault.record(0, 7, 3), 6);
    }

    static void promise05AppendTakesTheFirstOfTheLeast() {
        RevisionVault vault = Check.vaultWith(0, "abcdefghij1", "abcdefghij2", "zzzzyyyyxx");
        vault.begin(0);
        Check.due("base of 1", vault.record(0, 1, 3), 0);
        Check.append(vault, 0, "abcdefghij3", 0, 1);
        Check.due("p1 of two alike", vault.record(0, 3, 3), 0);
        Check.append(vault, 0, "abcdefghij4", 1, 0);
        Check.due("p1 of two alike, changed about", vault.record(0, 4, 3), 1);
        Check.append(vault, 0, "abcdefghij22", 0, 1);
        Check.due("p2 has the lesser", vault.record(0, 5, 3), 1);
        Check.append(vault, 0, "abcdefghij229", 0, 1);
        Check.due("the latest has the least", vault.record(0, 6, 3), 5);
        Check.append(vault, 0, "abcdefghij227", 5, 6);
        Check.due("p1 before the latest", vault.record(0, 7, 3), 5);
        Check.append(vault, 0, "abcdefghij226", 2, 6);
        Check.due("p2 before the latest", vault.record(0, 8, 3), 6);
    }

    static void promise05AppendKeepsChainsToSix() {
        String text = Check.LETTERS.substring(0, 40);
        RevisionVault vault = Check.vaultWith(0, text, text + "1", text + "12", text + "123",
                text + "1234", text + "12345", text + "123456", text + "1234567");
        for (int n = 1; n <= 5; n++) {
            Check.due("base of " + n, vault.record(0, n, 3), n - 1);
        }
        Check.due("the seventh of a chain", vault.record(0, 6, 3), -1);
        Check.due("the one behind it", vault.record(0, 7, 3), 6);
        Check.dueText("text", Check.textOf(vault, 0, 5), text + "12345");
        Check.due("wrong", vault.wrong(0), 0);
    }

    static void promise05AppendPassesOverACandidateWhoseChainIsLong() {
        String text = Check.LETTERS.substring(0, 40);
        RevisionVault vault = Check.vaultWith(0, text, text + "1", text + "12", text + "123",
                text + "1234", text + "12345");
        vault.begin(0);
        Check.append(vault, 0, text + "123456", 5, 4);
        Check.due("p2, as p1 would be the seventh", vault.record(0, 6, 3), 4);
        Check.due("size", vault.record(0, 6, 1), 6);
    }

    /** A base chunk of 41 bytes: 4 + n + 41 has to be at most 2 * LENGTH + 16. */
    static void promise05AppendKeepsChainsToTheirBytes() {
        String text = Check.LETTERS.substring(0, 40);
        RevisionVault vault = Check.vaultWith(0, text, text.substring(0, 15));
        Check.due("4 + 41 of 46", vault.record(0, 1, 3), 0);
        vault = Check.vaultWith(0, text, text.substring(0, 14));
        Check.due("4 + 41 of 44", vault.record(0, 1, 3), -1);
        vault = Check.vaultWith(0, text, text.substring(0, 14) + "!");
        Check.due("5 + 41 of 46", vault.record(0, 1, 3), 0);
        vault = Check.vaultWith(0, text, text.substring(0, 13) + "!!");
        Check.due("6 + 41 of 46", vault.record(0, 1, 3), -1);
    }

    static void promise05AppendCountsTheBytesOfTheWholeChain() {
        String text = Check.LETTERS.substring(0, 20);
        RevisionVault vault = Check.vaultWith(0, text, text + "abcdef", text + "abcdefghijkl",
                text.substring(0, 15));
        // 21, 10 and 10 bytes; 4 more are 45, where 46 may be.
        Check.due("base", vault.record(0, 3, 3), 2);
        vault = Check.vaultWith(0, text, text + "abcdef", text + "abcdefghijkl",
                text.substring(0, 14));
        Check.due("45 of 44", vault.record(0, 3, 3), -1);
    }

    static void promise05AppendTakesNoWrongCandidate() {
        RevisionVault vault = Check.vaultWith(0, "0123456789", "abcdefghij");
        vault.begin(0);
        vault.damage(0, 1, 1);
        Check.append(vault, 0, "0123456789x", 0, -1);
        Check.due("p1 is WRONG", vault.record(0, 2, 3), -1);
        vault.damage(0, 1, 1);
        Check.append(vault, 0, "0123456789y", 0, -1);
        Check.due("p1 is right again", vault.record(0, 3, 3), 0);
    }

    static void promise05AppendHasTwentyFourRecords() {
        RevisionVault vault = new RevisionVault();
        vault.begin(0);
        for (int n = 0; n < 24; n++) {
            Check.due("append " + n, vault.append(0, n - 1, -1), n);
        }
        vault.fail(0, 1);
        String before = Check.stateOf(vault, 0);
        Check.throwsOut("the 25th", REFUSED, () -> vault.append(0, 23, -1));
        Check.due("one that is there", vault.append(0, 22, -1), 23);
        Check.throwsOut("a parent that is not there", BAD_PARENT, () -> vault.append(0, 24, -1));
        Check.dueText("state", Check.stateOf(vault, 0), before);
        Check.due("the failure waits", vault.commit(0), -2);
    }

    static void promise05AppendHasSixHundredBytes() {
        RevisionVault vault = Check.vaultFilled(0, 549);
        Check.due("data", vault.data(0, -1), 600 - 51);
        String fifty = Check.LETTERS.substring(1, 51);
        Check.due("50 characters", Check.append(vault, 0, fifty, -1, -1), 9);
        Check.due("data", vault.data(0, -1), 600);
        Check.due("the last byte", vault.data(0, 599), Check.LETTERS.charAt(50));
        Check.throwsOut("even a 'u'", REFUSED, () -> Check.append(vault, 0, "", 1, 1));
        Check.due("one that is there", Check.append(vault, 0, fifty, -1, -1), 9);
        RevisionVault other = Check.vaultFilled(0, 549);
        other.fail(0, 1);
        Check.throwsOut("51 characters", REFUSED,
                () -> Check.append(other, 0, Check.LETTERS.substring(1, 52), -1, -1));
        Check.due("revisions", other.revisions(0), 9);
        Check.due("data", other.data(0, -1), 549);
        Check.due("the failure waits", other.commit(0), -2);
    }

    static void promise05AppendIsTwoWrites() {
        for (int failing = 1; failing <= 2; failing++) {
            RevisionVault vault = Check.vaultWith(0, "ab");
            vault.begin(0);
            vault.fail(0, failing);
            Check.due("append", Check.append(vault, 0, "cd", 0, -1), -2);
            Check.due("revisions", vault.revisions(0), -2);
            Check.due("recover", vault.recover(0, 0), 0);
            Check.due("revisions", vault.revisions(0), 1);
            Check.due("data", vault.data(0, -1), 3);
        }
        RevisionVault vault = Check.vaultWith(0, "ab");
        vault.begin(0);
        vault.fail(0, 3);
        Check.due("append", Check.append(vault, 0, "cd", 0, -1), 1);
        Check.due("the third", vault.commit(0), -2);
    }

    // Promise 6 ----------------------------------------------------------------------------------

    static void promise06CommitEndsTheTransaction() {
        RevisionVault vault = new RevisionVault();
        Check.throwsOut("no journal", BAD_STATE, () -> vault.commit(0));
        vault.begin(0);
        Check.append(vault, 0, "ab", -1, -1);
        Check.throwsOut("the other has none", BAD_STATE, () -> vault.commit(1));
        Check.due("commit", vault.commit(0), 0);
        Check.due("revisions", vault.revisions(0), 1);
        Check.throwsOut("commit again", BAD_STATE, () -> vault.commit(0));
        Check.throwsOut("append", BAD_STATE, () -> vault.append(0, -1, -1));
        vault.begin(0);
        Check.due("what was committed stays", vault.abort(0), 0);
        Check.due("revisions", vault.revisions(0), 1);
        for (int r : NO_REPOSITORY) {
            Check.throwsOut("commit " + r, NO_SUCH, () -> vault.commit(r));
        }
    }

    static void promise06CommitIsAWrite() {
        RevisionVault vault = new RevisionVault();
        vault.begin(0);
        Check.append(vault, 0, "ab", -1, -1);
        vault.fail(0, 1);
        Check.due("commit that fails", vault.commit(0), -2);
        Check.throwsOut("DOWN", BAD_STATE, () -> vault.commit(0));
        Check.due("recover", vault.recover(0, 0), 1);
        Check.due("revisions", vault.revisions(0), 0);
    }

    // Promise 7 ----------------------------------------------------------------------------------

    static void promise07AbortRollsBack() {
        RevisionVault vault = Check.vaultWith(0, "ab", "abcdefghij");
        String before = Check.stateOf(vault, 0);
        vault.begin(0);
        Check.append(vault, 0, "abcdefghijk", 1, -1);
        Check.append(vault, 0, "abcdefghijkl", 2, 0);
        Check.append(vault, 0, "q", 3, -1);
        Check.due("abort", vault.abort(0), 3);
        Check.dueText("state", Check.stateOf(vault, 0), before);
        Check.throwsOut("abort again", BAD_STATE, () -> vault.abort(0));
        Check.throwsOut("the other", BAD_STATE, () -> vault.abort(1));
        for (int r : NO_REPOSITORY) {
            Check.throwsOut("abort " + r, NO_SUCH, () -> vault.abort(r));
        }
        vault.begin(0);
        Check.due("a node that went is new", Check.append(vault, 0, "abcdefghijkl", 1, 0), 2);
    }

    static void promise07AbortKeepsDamageOfWhatStays() {
        RevisionVault vault = Check.vaultWith(0, "ab");
        vault.begin(0);
        vault.damage(0, 1, 3);
        Check.due("abort", vault.abort(0), 0);
        Check.due("byte", vault.data(0, 1), 'a' ^ 3);
        Check.due("wrong", vault.wrong(0), 1);
    }

    static void promise07AbortIsThreeWrites() {
        for (int failing = 1; failing <= 3; failing++) {
            RevisionVault vault = Check.vaultWith(0, "ab");
            vault.begin(0);
            Check.append(vault, 0, "cd", 0, -1);
            vault.fail(0, failing);
            Check.due("abort", vault.abort(0), -2);
            Check.throwsOut("DOWN", BAD_STATE, () -> vault.abort(0));
            Check.due("recover", vault.recover(0, 0), failing == 3 ? 0 : 1);
            Check.due("revisions", vault.revisions(0), 1);
            Check.due("data", vault.data(0, -1), 3);
        }
        RevisionVault vault = new RevisionVault();
        vault.begin(0);
        vault.fail(0, 4);
        Check.due("abort", vault.abort(0), 0);
        Check.due("the fourth", vault.begin(0), -2);
    }

    // Promise 8 ----------------------------------------------------------------------------------

    static void promise08FailIsRefused() {
        RevisionVault vault = new RevisionVault();
        for (int r : NO_REPOSITORY) {
            Check.due("fail " + r, vault.fail(r, 1), false);
        }
        vault.fail(0, 2);
        for (int n : new int[] {-1, 101, Integer.MIN_VALUE, Integer.MAX_VALUE}) {
            Check.due("fail at " + n, vault.fail(0, n), false);
        }
        Check.due("begin", vault.begin(0), 0);
        Check.due("what was told stays", vault.commit(0), -2);
        Check.due("DOWN", vault.fail(0, 1), false);
        Check.due("DOWN", vault.fail(0, 0), false);
        Check.due("recover", vault.recover(0, 0), 0);
        Check.due("begin", vault.begin(0), 0);
    }

    static void promise08FailTakesThePlaceOfAnother() {
        RevisionVault vault = new RevisionVault();
        Check.due("fail", vault.fail(0, 1), true);
        Check.due("none", vault.fail(0, 0), true);
        Check.due("begin", vault.begin(0), 0);
        Check.due("fail", vault.fail(0, 1), true);
        Check.due("fail", vault.fail(0, 2), true);
        Check.due("abort", vault.abort(0), -2);
        Check.due("recover", vault.recover(0, 0), 0);
        Check.due("begin of the other", vault.begin(1), 0);
    }

    /** "1 .. 100, or none for n = 0 .. False .. when .. n is another". */
    static void promise08FailTakesNoughtToAHundred() {
        for (int n = -2; n <= 103; n++) {
            RevisionVault vault = new RevisionVault();
            Check.due("fail at " + n, vault.fail(0, n), n >= 0 && n <= 100);
            Check.due("begin", vault.begin(0), n == 1 ? -2 : 0);
        }
    }

    static void promise08FailComesAtTheHundredth() {
        RevisionVault vault = new RevisionVault();
        Check.due("fail", vault.fail(0, 100), true);
        for (int k = 0; k < 49; k++) {
            Check.due("begin", vault.begin(0), 0);
            Check.due("commit", vault.commit(0), 0);
        }
        Check.due("begin, the 99th", vault.begin(0), 0);
        Check.due("commit, the 100th", vault.commit(0), -2);
    }

    static void promise08FailComesOnce() {
        RevisionVault vault = new RevisionVault();
        vault.fail(0, 1);
        Check.due("begin", vault.begin(0), -2);
        vault.recover(0, 0);
        for (int k = 0; k < 100; k++) {
            Check.due("begin", vault.begin(0), 0);
            Check.due("commit", vault.commit(0), 0);
        }
    }

    static void promise08FailIsOfOneRepository() {
        RevisionVault vault = new RevisionVault();
        vault.fail(0, 1);
        Check.due("begin of the other", vault.begin(1), 0);
        Check.due("commit of the other", vault.commit(1), 0);
        Check.due("pull reads the other alone", vault.pull(1), 0);
        Check.due("begin", vault.begin(0), -2);
        Check.due("revisions of the other", vault.revisions(1), 0);
    }

    static void promise08FailLeavesWhatIsDownAlone() {
        RevisionVault vault = Check.vaultDown();
        Check.throwsOut("begin", BAD_STATE, () -> vault.begin(0));
        Check.throwsOut("append", BAD_STATE, () -> vault.append(0, -1, -1));
        Check.throwsOut("commit", BAD_STATE, () -> vault.commit(0));
        Check.throwsOut("abort", BAD_STATE, () -> vault.abort(0));
        Check.throwsOut("pull", BAD_STATE, () -> vault.pull(0));
        Check.throwsOut("pull from it", BAD_STATE, () -> vault.pull(1));
        Check.throwsOut("text", BAD_STATE, () -> vault.text(0, 0, 0));
        Check.due("damage", vault.damage(0, 0, 1), false);
        Check.due("recover", vault.recover(0, 0), 0);
        Check.dueText("text", Check.textOf(vault, 0, 0), "ab");
    }

    // Promise 9 ----------------------------------------------------------------------------------

    static void promise09RecoverThrows() {
        RevisionVault vault = new RevisionVault();
        for (int r : NO_REPOSITORY) {
            Check.throwsOut("recover " + r, NO_SUCH, () -> vault.recover(r, 0));
        }
        for (int n : new int[] {-1, 4, Integer.MIN_VALUE, Integer.MAX_VALUE}) {
            Check.throwsOut("UP, n " + n, NO_SUCH, () -> vault.recover(0, n));
        }
        Check.throwsOut("UP", BAD_STATE, () -> vault.recover(0, 0));
        RevisionVault down = Check.vaultDown();
        Check.throwsOut("DOWN, n 4", NO_SUCH, () -> down.recover(0, 4));
        Check.throwsOut("the other is UP", BAD_STATE, () -> down.recover(1, 0));
        Check.due("revisions", down.revisions(0), -2);
        Check.due("recover", down.recover(0, 0), 0);
        Check.throwsOut("recover again", BAD_STATE, () -> down.recover(0, 0));
    }

    static void promise09RecoverRollsBack() {
        RevisionVault vault = Check.vaultWith(0, "ab");
        String before = Check.stateOf(vault, 0);
        vault.begin(0);
        Check.append(vault, 0, "abcdefg", 0, -1);
        Check.append(vault, 0, "abcdefgh", 1, -1);
        vault.fail(0, 2);
        Check.due("append", Check.append(vault, 0, "z", -1, -1), -2);
        Check.due("recover", vault.recover(0, 0), 2);
        Check.dueText("state", Check.stateOf(vault, 0), before);
        Check.throwsOut("the journal is gone", BAD_STATE, () -> vault.commit(0));
        Check.due("begin", vault.begin(0), 0);
    }

    static void promise09RecoverMayFailItself() {
        RevisionVault vault = new RevisionVault();
        vault.begin(0);
        Check.append(vault, 0, "abcdefg", -1, -1);
        vault.fail(0, 1);
        vault.commit(0);
        Check.due("recover, 1", vault.recover(0, 1), -2);
        Check.due("revisions", vault.revisions(0), -2);
        Check.due("recover, 2", vault.recover(0, 2), -2);
        Check.throwsOut("INDEX has it still", BAD_STATE, () -> vault.text(0, 0, 0));
        Check.due("recover, 3", vault.recover(0, 3), -2);
        Check.throwsOut("INDEX has it no more", NO_SUCH, () -> vault.text(0, 0, 0));
        Check.due("recover, none went", vault.recover(0, 0), 0);
        Check.due("revisions", vault.revisions(0), 0);
        Check.due("data", vault.data(0, -1), 0);
    }

    /** "With n from 1 to 3 a failure comes at the n-th WRITE of this", with 0 none. */
    static void promise09RecoverFailsAtItsWrite() {
        for (int n = 0; n <= 3; n++) {
            RevisionVault vault = new RevisionVault();
            vault.begin(0);
            Check.append(vault, 0, "ab", -1, -1);
            Check.append(vault, 0, "cd", 0, -1);
            vault.fail(0, 1);
            vault.commit(0);
            Check.due("recover", vault.recover(0, n), n == 0 ? 2 : -2);
            Check.due("revisions", vault.revisions(0), n == 0 ? 0 : -2);
            if (n > 0) {
                // DATA and INDEX were cut before the third, so none is left to go.
                Check.due("recover again", vault.recover(0, 0), n == 3 ? 0 : 2);
            }
            Check.due("revisions", vault.revisions(0), 0);
            Check.due("data", vault.data(0, -1), 0);
            Check.due("begin", vault.begin(0), 0);
        }
    }

    static void promise09RecoverTellsNoFailureForLater() {
        RevisionVault vault = new RevisionVault();
        vault.fail(0, 1);
        vault.begin(0);
        Check.due("no journal, so no WRITE", vault.recover(0, 3), 0);
        for (int k = 0; k < 3; k++) {
            Check.due("begin", vault.begin(0), 0);
            Check.due("commit", vault.commit(0), 0);
        }
    }

    // Promise 10 ---------------------------------------------------------------------------------

    static void promise10PullThrows() {
        for (int r : NO_REPOSITORY) {
            Check.throwsOut("pull " + r, NO_SUCH, () -> new RevisionVault().pull(r));
        }
        RevisionVault vault = Check.vaultWith(0, "ab");
        vault.begin(0);
        Check.throwsOut("the other has a journal", BAD_STATE, () -> vault.pull(1));
        Check.throwsOut("it has a journal", BAD_STATE, () -> vault.pull(0));
        vault.fail(0, 1);
        vault.commit(0);
        Check.throwsOut("the other is DOWN", BAD_STATE, () -> vault.pull(1));
        Check.throwsOut("it is DOWN", BAD_STATE, () -> vault.pull(0));
        vault.recover(0, 0);
        Check.due("pull", vault.pull(1), 1);
    }

    static void promise10PullBringsWhatIsMissing() {
        RevisionVault vault = Check.vaultWith(0, "root", "left side", "right side");
        vault.begin(0);
        Check.append(vault, 0, "left and right side", 2, 1);
        vault.commit(0);
        vault.begin(1);
        Check.append(vault, 1, "its own", -1, -1);
        Check.append(vault, 1, "root", -1, -1);
        vault.commit(1);
        String before = Check.stateOf(vault, 0);
        Check.due("pull", vault.pull(1), 3);
        Check.due("revisions", vault.revisions(1), 5);
        Check.dueText("text", Check.textOf(vault, 1, 4), "left and right side");
        Check.due("p1", vault.record(1, 4, 4), 3);
        Check.due("p2", vault.record(1, 4, 5), 2);
        Check.due("p1 of the left", vault.record(1, 2, 4), 1);
        Check.due("p2 of the left", vault.record(1, 2, 5), -1);
        Check.due("node", vault.node(1, 4), vault.node(0, 3));
        Check.dueText("the other stays", Check.stateOf(vault, 0), before);
        Check.throwsOut("the journal is gone", BAD_STATE, () -> vault.commit(1));
        Check.due("pull again", vault.pull(1), 0);
        Check.due("pull back", vault.pull(0), 1);
        Check.dueText("text", Check.textOf(vault, 0, 4), "its own");
    }

    static void promise10PullLeavesTheBuffer() {
        RevisionVault vault = Check.vaultWith(0, "root");
        Check.type(vault, "mine");
        vault.pull(1);
        Check.dueText("buffer", Check.bufferOf(vault), "mine");
    }

    static void promise10PullChoosesChunksAnew() {
        RevisionVault vault = Check.vaultWith(0, "0123456789", "abcdefghij", "abcdefghijk");
        vault.begin(1);
        Check.append(vault, 1, "abcdefghijk", -1, -1);
        vault.commit(1);
        Check.due("pull", vault.pull(1), 3);
        Check.due("base there", vault.record(0, 1, 3), -1);
        Check.due("no base here either", vault.record(1, 2, 3), -1);
        Check.due("base here", vault.record(1, 3, 3), 2);
        vault = Check.vaultWith(1, "abcdefghij");
        vault.begin(0);
        Check.append(vault, 0, "abcdefghijk", -1, -1);
        vault.commit(0);
        Check.due("none there", vault.record(0, 0, 3), -1);
        Check.due("pull", vault.pull(1), 1);
        Check.due("the latest here", vault.record(1, 1, 3), 0);
    }

    static void promise10PullIsATransaction() {
        // journal, 2 for each of two revisions, removal: six WRITES.
        for (int failing = 1; failing <= 6; failing++) {
            RevisionVault vault = Check.vaultWith(0, "ab", "cd");
            vault.fail(1, failing);
            Check.due("pull", vault.pull(1), -2);
            Check.due("revisions", vault.revisions(1), -2);
            Check.due("recover", vault.recover(1, 0), Math.max(0, (failing - 2) / 2));
            Check.due("revisions", vault.revisions(1), 0);
            Check.due("data", vault.data(1, -1), 0);
            Check.due("pull", vault.pull(1), 2);
        }
        RevisionVault vault = Check.vaultWith(0, "ab", "cd");
        vault.fail(1, 7);
        Check.due("pull", vault.pull(1), 2);
        Check.due("the seventh", vault.begin(1), -2);
    }

    static void promise10PullOfNothingIsATransactionToo() {
        RevisionVault vault = new RevisionVault();
        vault.fail(1, 3);
        Check.due("pull", vault.pull(1), 0);
        Check.due("the third", vault.pull(1), -2);
        Check.due("recover", vault.recover(1, 0), 0);
    }

    static void promise10PullRefusesWrongTexts() {
        RevisionVault vault = Check.vaultWith(0, "ab", "cd");
        vault.damage(0, 4, 1);
        vault.fail(1, 5);
        Check.throwsOut("pull", REFUSED, () -> vault.pull(1));
        Check.due("revisions", vault.revisions(1), 0);
        Check.due("data", vault.data(1, -1), 0);
        Check.throwsOut("no journal", BAD_STATE, () -> vault.commit(1));
        Check.throwsOut("pull again", REFUSED, () -> vault.pull(1));
        vault.damage(0, 4, 1);
        Check.due("the failure waits as it was told", vault.pull(1), -2);
    }

    static void promise10PullPassesOverWrongTextsThatAreHere() {
        RevisionVault vault = Check.vaultWith(0, "ab", "cd");
        Check.due("pull", vault.pull(1), 2);
        vault.damage(0, 1, 1);
        vault.begin(0);
        Check.append(vault, 0, "ef", 0, -1);
        vault.commit(0);
        Check.due("pull", vault.pull(1), 1);
        Check.due("wrong there", vault.wrong(0), 1);
        Check.due("wrong here", vault.wrong(1), 0);
    }

    static void promise10PullFailsBeforeItRefuses() {
        RevisionVault vault = Check.vaultWith(0, "ab", "cd");
        vault.damage(0, 4, 1);
        vault.fail(1, 3);
        Check.due("pull", vault.pull(1), -2);
        Check.due("recover", vault.recover(1, 0), 0);
    }

    /** "that is not done, nor anything after it": the last to come is WRONG or finds no room. */
    static void promise10PullFailsUpToTheWriteBeforeItRefuses() {
        for (int kind = 0; kind < 3; kind++) {
            // The journal and two revisions are five WRITES; the third revision refuses the sixth.
            for (int failing = 1; failing <= 7; failing++) {
                RevisionVault vault = refusingTheThird(kind);
                int before = vault.revisions(1);
                vault.fail(1, failing);
                if (failing <= 5) {
                    Check.due("pull " + failing, vault.pull(1), -2);
                    Check.due("recover", vault.recover(1, 0), failing < 4 ? 0 : 1);
                } else {
                    Check.throwsOut("pull " + failing, REFUSED, () -> vault.pull(1));
                    dueAtWrite(vault, failing);
                }
                Check.due("revisions", vault.revisions(1), before);
            }
        }
    }

    /** Three of repository 0 are to come: the last is WRONG, the 25th record or the 601st byte. */
    private static RevisionVault refusingTheThird(int kind) {
        RevisionVault vault = kind == 2 ? Check.vaultFilled(1, 592) : new RevisionVault();
        if (kind != 2) {
            vault.begin(1);
        }
        for (int n = 0; kind == 1 && n < 22; n++) {
            vault.append(1, n - 1, -1);
        }
        vault.commit(1);
        vault.begin(0);
        Check.append(vault, 0, "!?", -1, -1);
        Check.append(vault, 0, "+-", 0, -1);
        Check.append(vault, 0, "#*", 1, -1);
        vault.commit(0);
        if (kind == 0) {
            vault.damage(0, 7, 1);
        }
        return vault;
    }

    /** Repository 1, without a journal, has its failure at that WRITE from now on. */
    private static void dueAtWrite(RevisionVault vault, int failing) {
        for (int write = 1; write <= failing; write++) {
            Check.due("write " + write, write % 2 == 1 ? vault.begin(1) : vault.commit(1),
                    write == failing ? -2 : 0);
        }
        Check.due("recover", vault.recover(1, 0), 0);
    }

    static void promise10PullHasNoMoreRecordsThanAppend() {
        RevisionVault vault = Check.vaultWith(0, "a", "b", "c");
        vault.begin(1);
        for (int n = 0; n < 22; n++) {
            vault.append(1, n - 1, -1);
        }
        vault.commit(1);
        String before = Check.stateOf(vault, 1);
        Check.throwsOut("25", REFUSED, () -> vault.pull(1));
        Check.dueText("state", Check.stateOf(vault, 1), before);
        Check.throwsOut("no journal", BAD_STATE, () -> vault.abort(1));
        vault.begin(1);
        Check.due("a", Check.append(vault, 1, "a", -1, -1), 22);
        Check.due("b", Check.append(vault, 1, "b", 22, -1), 23);
        vault.commit(1);
        Check.throwsOut("25", REFUSED, () -> vault.pull(1));
    }

    /** "there are 24 records": 22 and two that come are as many as there may be. */
    static void promise10PullFillsTwentyFourRecords() {
        for (int there = 21; there <= 23; there++) {
            RevisionVault vault = Check.vaultWith(0, "a", "b");
            vault.begin(1);
            for (int n = 0; n < there; n++) {
                vault.append(1, n - 1, -1);
            }
            vault.commit(1);
            if (there <= 22) {
                Check.due("pull", vault.pull(1), 2);
                Check.due("revisions", vault.revisions(1), there + 2);
            } else {
                Check.throwsOut("25", REFUSED, () -> vault.pull(1));
                Check.due("revisions", vault.revisions(1), 23);
            }
        }
    }

    /** What is there already needs no room. */
    static void promise10PullOfWhatIsThereNeedsNoRoom() {
        RevisionVault vault = Check.vaultFilled(0, 600);
        vault.commit(0);
        Check.due("pull", vault.pull(1), 10);
        Check.due("data", vault.data(1, -1), 600);
        Check.due("pull again", vault.pull(1), 0);
        Check.due("pull back", vault.pull(0), 0);
        vault.damage(0, 1, 1);
        Check.due("what is there may be WRONG", vault.pull(1), 0);
    }

    /** "DATA would have more than 600 bytes": 600 may be, 601 not, with the second that comes. */
    static void promise10PullFillsSixHundredBytes() {
        for (int there = 594; there <= 595; there++) {
            RevisionVault vault = Check.vaultFilled(1, there);
            vault.commit(1);
            int before = vault.revisions(1);
            vault.begin(0);
            Check.append(vault, 0, "!?", -1, -1);
            Check.append(vault, 0, "+-", 0, -1);
            vault.commit(0);
            if (there == 594) {
                Check.due("pull", vault.pull(1), 2);
                Check.due("data", vault.data(1, -1), 600);
            } else {
                Check.throwsOut("601", REFUSED, () -> vault.pull(1));
                Check.due("data", vault.data(1, -1), 595);
                Check.due("revisions", vault.revisions(1), before);
            }
        }
    }

    static void promise10PullHasNoMoreBytesThanAppend() {
        RevisionVault vault = Check.vaultFilled(0, 549);
        vault.commit(0);
        vault.begin(1);
        Check.append(vault, 1, Check.LETTERS.substring(1, 50), -1, -1);
        Check.append(vault, 1, "y", -1, -1);
        vault.commit(1);
        Check.throwsOut("601", REFUSED, () -> vault.pull(0));
        Check.due("revisions", vault.revisions(0), 9);
        Check.due("data", vault.data(0, -1), 549);
        RevisionVault other = Check.vaultFilled(0, 549);
        other.commit(0);
        other.begin(1);
        Check.append(other, 1, Check.LETTERS.substring(1, 51), -1, -1);
        other.commit(1);
        Check.due("600", other.pull(0), 1);
        Check.due("data", other.data(0, -1), 600);
    }

    // Promise 11 ---------------------------------------------------------------------------------

    static void promise11TextHasItsCharacters() {
        RevisionVault vault = Check.vaultWith(0, "a\n~ ", Check.LETTERS,
                Check.LETTERS.substring(3));
        Check.due("k 0", vault.text(0, 0, 0), 'a');
        Check.due("k 1", vault.text(0, 0, 1), 10);
        Check.due("k 2", vault.text(0, 0, 2), '~');
        Check.due("k 3", vault.text(0, 0, 3), ' ');
        for (int k : new int[] {4, -1, 60, Integer.MIN_VALUE, Integer.MAX_VALUE}) {
            Check.due("k " + k, vault.text(0, 0, k), 0);
        }
        Check.due("k 59", vault.text(0, 1, 59), '7');
        Check.due("k 60", vault.text(0, 1, 60), 0);
        Check.due("behind a shorter one", vault.text(0, 2, 57), 0);
        Check.dueText("text", Check.textOf(vault, 0, 2), Check.LETTERS.substring(3));
    }

    static void promise11TextThrows() {
        RevisionVault vault = Check.vaultWith(0, "ab");
        for (int r : NO_REPOSITORY) {
            Check.throwsOut("text of " + r, NO_SUCH, () -> vault.text(r, 0, 0));
        }
        for (int n : new int[] {-1, 1, 24, Integer.MIN_VALUE, Integer.MAX_VALUE}) {
            Check.throwsOut("n " + n, NO_SUCH, () -> vault.text(0, n, 0));
        }
        Check.throwsOut("n 0 of none", NO_SUCH, () -> vault.text(1, 0, 0));
        vault.damage(0, 1, 1);
        Check.throwsOut("WRONG", REFUSED, () -> vault.text(0, 0, 0));
        Check.throwsOut("WRONG, no such k", REFUSED, () -> vault.text(0, 0, 99));
        vault.begin(0);
        vault.fail(0, 1);
        vault.commit(0);
        Check.throwsOut("DOWN before WRONG", BAD_STATE, () -> vault.text(0, 0, 0));
        Check.throwsOut("no revision before DOWN", NO_SUCH, () -> vault.text(0, 1, 0));
    }

    // Promise 12 ---------------------------------------------------------------------------------

    static void promise12RevisionsAreCounted() {
        RevisionVault vault = new RevisionVault();
        vault.begin(0);
        for (int n = 0; n < 3; n++) {
            Check.due("revisions", vault.revisions(0), n);
            vault.append(0, n - 1, -1);
        }
        Check.due("revisions", vault.revisions(0), 3);
        Check.due("revisions of the other", vault.revisions(1), 0);
        for (int r : NO_REPOSITORY) {
            Check.due("revisions of " + r, vault.revisions(r), -1);
        }
    }

    static void promise12QuestionsToOneThatIsDown() {
        RevisionVault vault = Check.vaultDown();
        for (int n : new int[] {0, 9, -1}) {
            Check.due("revisions", vault.revisions(0), -2);
            Check.due("record", vault.record(0, n, 0), -2);
            Check.due("record, no field", vault.record(0, n, 9), -2);
            Check.due("node", vault.node(0, n), 0);
            Check.due("data", vault.data(0, n), -2);
            Check.due("wrong", vault.wrong(0), -2);
            Check.due("heads", vault.heads(0), -2);
            Check.due("common", vault.common(0, n, n), -2);
        }
        vault.recover(0, 0);
        Check.due("revisions", vault.revisions(0), 1);
    }

    static void promise12QuestionsToNone() {
        RevisionVault vault = Check.vaultWith(0, "ab");
        for (int r : NO_REPOSITORY) {
            Check.due("record", vault.record(r, 0, 0), -1);
            Check.due("node", vault.node(r, 0), 0);
            Check.due("data", vault.data(r, -1), -1);
            Check.due("wrong", vault.wrong(r), -1);
            Check.due("heads", vault.heads(r), -1);
            Check.due("common", vault.common(r, 0, 0), -1);
            Check.due("damage", vault.damage(r, 0, 1), false);
        }
    }

    // Promise 13 ---------------------------------------------------------------------------------

    static void promise13RecordHasSixFields() {
        RevisionVault vault = Check.vaultWith(0, "abcdefg", "tuvwxyz");
        vault.begin(0);
        Check.append(vault, 0, "abcdefgh!", 1, 0);
        int[] want = {16, 6, 9, 0, 1, 0};
        for (int field = 0; field < 6; field++) {
            Check.due("field " + field, vault.record(0, 2, field), want[field]);
        }
        int[] first = {0, 8, 7, -1, -1, -1};
        for (int field = 0; field < 6; field++) {
            Check.due("field " + field, vault.record(0, 0, field), first[field]);
        }
        for (int field : new int[] {-1, 6, Integer.MIN_VALUE, Integer.MAX_VALUE}) {
            Check.due("field " + field, vault.record(0, 2, field), -1);
        }
        for (int n : new int[] {-1, 3, 24, Integer.MIN_VALUE, Integer.MAX_VALUE}) {
            Check.due("record " + n, vault.record(0, n, 0), -1);
        }
        vault.abort(0);
        Check.due("a record that went", vault.record(0, 2, 1), -1);
    }

    // Promise 14 ---------------------------------------------------------------------------------

    static void promise14NodeIsComputed() {
        RevisionVault vault = Check.vaultWith(0, "", "abc");
        vault.begin(0);
        Check.append(vault, 0, "abc", -1, -1);
        Check.append(vault, 0, "m\n~", 1, 2);
        Check.append(vault, 0, "m\n~", 2, 2);
        Check.append(vault, 0, "m\n~", 2, 0);
        long[] want = new long[6];
        want[0] = Model.hash("", 0, 0);
        want[1] = Model.hash("abc", want[0], 0);
        want[2] = Model.hash("abc", 0, 0);
        want[3] = Model.hash("m\n~", want[1], want[2]);
        want[4] = Model.hash("m\n~", want[2], want[2]);
        want[5] = Model.hash("m\n~", want[0], want[2]);
        for (int n = 0; n < 6; n++) {
            Check.due("node " + n, vault.node(0, n), want[n]);
        }
        Check.due("known beforehand", Check.vaultWith(0, "root").node(0, 0),
                Model.hash("root", 0, 0));
        for (int n : new int[] {-1, 6, 24, Integer.MIN_VALUE, Integer.MAX_VALUE}) {
            Check.due("node " + n, vault.node(0, n), 0);
        }
    }

    /** The lesser as longs, so a negative node comes before the 0 of none. */
    static void promise14NodeOrdersParentsAsLongs() {
        boolean negative = false;
        boolean positive = false;
        for (int k = 0; k < 50; k++) {
            RevisionVault vault = Check.vaultWith(0, Check.LETTERS.substring(k, k + 8), "child");
            long parent = vault.node(0, 0);
            negative |= parent < 0;
            positive |= parent > 0;
            Check.due("node", vault.node(0, 1), Model.hash("child", parent, 0));
        }
        Check.due("both kinds came", negative && positive, true);
    }

    // Promise 15 ---------------------------------------------------------------------------------

    static void promise15DataShowsTheBytes() {
        RevisionVault vault = Check.vaultWith(0, "abcdefg", "abcdefg~", "");
        String want = "uabcdefg" + Check.bytes('d', 7, 7, 1, '~') + "u";
        Check.due("bytes", vault.data(0, -1), want.length());
        for (int k = 0; k < want.length(); k++) {
            Check.due("byte " + k, vault.data(0, k), want.charAt(k));
        }
        for (int k : new int[] {want.length(), -2, 600, Integer.MIN_VALUE, Integer.MAX_VALUE}) {
            Check.due("byte " + k, vault.data(0, k), -1);
        }
        Check.due("the other's", vault.data(1, 0), -1);
    }

    static void promise15DataOfAFullFile() {
        RevisionVault vault = Check.vaultFilled(0, 600);
        Check.due("bytes", vault.data(0, -1), 600);
        Check.due("the last", vault.data(0, 599), Check.textOf(vault, 0, 9).charAt(49));
        Check.due("behind it", vault.data(0, 600), -1);
        Check.due("damage of the last", vault.damage(0, 599, 1), true);
        Check.due("damage behind it", vault.damage(0, 600, 1), false);
    }

    // Promise 16 ---------------------------------------------------------------------------------

    static void promise16DamageFlipsBits() {
        RevisionVault vault = Check.vaultWith(0, "ab");
        Check.due("damage", vault.damage(0, 0, 255), true);
        Check.due("byte", vault.data(0, 0), 'u' ^ 255);
        Check.due("damage", vault.damage(0, 2, 1), true);
        Check.due("byte", vault.data(0, 2), 'b' ^ 1);
        Check.due("byte between", vault.data(0, 1), 'a');
        Check.due("bytes", vault.data(0, -1), 3);
        Check.due("damage back", vault.damage(0, 0, 255) & vault.damage(0, 2, 1), true);
        Check.dueText("text", Check.textOf(vault, 0, 0), "ab");
    }

    /** "(x 1 .. 255)", at the first byte and at the last. */
    static void promise16DamageTakesOneToTwoHundredAndFiftyFive() {
        for (int x = -1; x <= 257; x++) {
            boolean taken = x >= 1 && x <= 255;
            RevisionVault vault = Check.vaultWith(0, "ab");
            Check.due("first by " + x, vault.damage(0, 0, x), taken);
            Check.due("byte", vault.data(0, 0), taken ? 'u' ^ x : 'u');
            Check.due("last by " + x, vault.damage(0, 2, x), taken);
            Check.due("byte", vault.data(0, 2), taken ? 'b' ^ x : 'b');
            Check.due("behind the last by " + x, vault.damage(0, 3, x), false);
            Check.due("before the first by " + x, vault.damage(0, -1, x), false);
        }
    }

    static void promise16DamageIsRefused() {
        RevisionVault vault = Check.vaultWith(0, "ab");
        String before = Check.stateOf(vault, 0);
        for (int x : new int[] {0, -1, 256, Integer.MIN_VALUE, Integer.MAX_VALUE}) {
            Check.due("x " + x, vault.damage(0, 1, x), false);
        }
        for (int k : new int[] {-1, 3, 600, Integer.MIN_VALUE, Integer.MAX_VALUE}) {
            Check.due("k " + k, vault.damage(0, k, 1), false);
        }
        Check.due("the other", vault.damage(1, 0, 1), false);
        Check.dueText("state", Check.stateOf(vault, 0), before);
        RevisionVault down = Check.vaultDown();
        Check.due("DOWN", down.damage(0, 1, 1), false);
        down.recover(0, 0);
        Check.due("byte", down.data(0, 1), 'a');
    }

    static void promise16DamageIsNoWrite() {
        RevisionVault vault = Check.vaultWith(0, "ab");
        vault.fail(0, 1);
        Check.due("damage", vault.damage(0, 1, 1), true);
        Check.due("begin", vault.begin(0), -2);
    }

    // Promise 17: wrong, and when a text is WRONG -------------------------------------------------

    private static void dueWrong(RevisionVault vault, int k, int x, int want) {
        Check.due("damage", vault.damage(0, k, x), true);
        Check.due("wrong after byte " + k + " ^ " + x, vault.wrong(0), want);
        Check.due("damage back", vault.damage(0, k, x), true);
        Check.due("wrong", vault.wrong(0), 0);
    }

    static void promise17WrongSnapshots() {
        RevisionVault whole = Check.vaultWith(0, "abcd");
        for (int k = 0; k < 5; k++) {
            dueWrong(whole, k, 1, 1);
        }
        dueWrong(whole, 0, 'u' ^ 'x', 1);
        dueWrong(whole, 0, 'u' ^ 'd', 1);
        RevisionVault packed = Check.vaultWith(0, "aaaaabbbb");
        dueWrong(packed, 0, 'x' ^ 'u', 1);
        dueWrong(packed, 0, 'x' ^ 'd', 1);
        dueWrong(packed, 1, 5, 1);
        dueWrong(packed, 1, 1, 1);
        dueWrong(packed, 1, 255, 1);
        dueWrong(packed, 2, 1, 1);
        RevisionVault odd = Check.vaultWith(0, "abc");
        dueWrong(odd, 0, 'u' ^ 'x', 1);
    }

    static void promise17WrongIsNoOtherPackingOfTheSameText() {
        RevisionVault vault = Check.vaultWith(0, "aabb");
        Check.put(vault, 0, 'x');
        Check.put(vault, 1, 2);
        Check.put(vault, 3, 2);
        Check.dueText("chunk", Check.chunkOf(vault, 0, 0), Check.bytes('x', 2, 'a', 2, 'b'));
        Check.due("wrong", vault.wrong(0), 0);
        Check.dueText("text", Check.textOf(vault, 0, 0), "aabb");
    }

    /** In these the difference's text would be right if the rule were left out. */
    static void promise17WrongRunOfNone() {
        RevisionVault vault = Check.vaultWith(0, "aaaaabbbbb", "aaaaaXYZW12");
        Check.dueText("chunk", Check.chunkOf(vault, 0, 1), Check.bytes('d', 5, 10, 6) + "XYZW12");
        Check.put(vault, 3, 1);
        Check.put(vault, 7, 6);
        Check.due("a run of one", vault.wrong(0), 1);
        Check.put(vault, 3, 0);
        Check.put(vault, 7, 5);
        Check.due("a run of none", vault.wrong(0), 2);
    }

    static void promise17WrongHalfPair() {
        RevisionVault vault = Check.vaultWith(0, "abcdefghi", "abcdZ");
        Check.dueText("chunk", Check.chunkOf(vault, 0, 1), Check.bytes('d', 4, 9, 1, 'Z'));
        Check.put(vault, 0, 'x');
        for (int k = 0; k < 4; k++) {
            Check.put(vault, 1 + 2 * k, 1);
            Check.put(vault, 2 + 2 * k, "abcd".charAt(k));
        }
        Check.put(vault, 9, 1);
        Check.put(vault, 12, 4);
        Check.due("wrong", vault.wrong(0), 2);
        Check.put(vault, 12, 5);
        Check.due("not read beyond its chunk either", vault.wrong(0), 2);
    }

    static void promise17WrongDifferenceThatGoesBack() {
        RevisionVault vault = Check.vaultWith(0, Check.repeat('a', 10),
                Check.repeat('a', 6) + "BCDE" + Check.repeat('a', 6));
        Check.dueText("chunk", Check.chunkOf(vault, 0, 1), Check.bytes('d', 6, 6, 6) + "BCDEaa");
        Check.put(vault, 1, 12);
        Check.put(vault, 5, 8);
        Check.due("a below b", vault.wrong(0), 1);
        Check.put(vault, 1, 8);
        Check.put(vault, 5, 4);
        Check.due("a above b", vault.wrong(0), 2);
    }

    static void promise17WrongDifferenceBehindTheBase() {
        RevisionVault vault = Check.vaultWith(0, Check.repeat('a', 10), "aaaaaBCDEFGH");
        Check.dueText("chunk", Check.chunkOf(vault, 0, 1), Check.bytes('d', 5, 10, 7) + "BCDEFGH");
        Check.put(vault, 5, 11);
        Check.due("b above the length", vault.wrong(0), 1);
        Check.put(vault, 5, 10);
        Check.put(vault, 1, 9);
        Check.due("b above the length that the base has now", vault.wrong(0), 2);
        Check.put(vault, 5, 9);
        Check.due("b at that length", vault.wrong(0), 1);
    }

    static void promise17WrongSnapshotBeyondSixty() {
        RevisionVault vault = Check.vaultWith(0, Check.repeat('a', 20), "aaaaabcdefgh");
        Check.dueText("chunk", Check.chunkOf(vault, 0, 1), Check.bytes('d', 5, 20, 7) + "bcdefgh");
        Check.put(vault, 1, 60);
        Check.put(vault, 5, 60);
        Check.due("60 on the way", vault.wrong(0), 1);
        Check.dueText("text", Check.textOf(vault, 0, 1), "aaaaabcdefgh");
        Check.put(vault, 1, 61);
        Check.put(vault, 5, 61);
        Check.due("61 on the way", vault.wrong(0), 2);
        Check.put(vault, 1, 255);
        Check.put(vault, 5, 255);
        Check.due("255 on the way", vault.wrong(0), 2);
    }

    static void promise17WrongDifferenceBeyondSixty() {
        RevisionVault vault = Check.vaultWith(0, Check.repeat('a', 20),
                Check.repeat('a', 20) + "BCDEF", Check.repeat('a', 20) + "GHIJK");
        Check.dueText("chunk 1", Check.chunkOf(vault, 0, 1), Check.bytes('d', 20, 20, 5) + "BCDEF");
        Check.dueText("chunk 2", Check.chunkOf(vault, 0, 2), Check.bytes('d', 20, 25, 5) + "GHIJK");
        Check.put(vault, 1, 55);
        Check.put(vault, 14, 60);
        Check.due("60 on the way", vault.wrong(0), 2);
        Check.dueText("text", Check.textOf(vault, 0, 2), Check.repeat('a', 20) + "GHIJK");
        Check.put(vault, 1, 56);
        Check.put(vault, 14, 61);
        Check.due("61 on the way", vault.wrong(0), 3);
        Check.put(vault, 14, 56);
        Check.due("61 on the way, not passed over", vault.wrong(0), 3);
    }

    static void promise17WrongDifferences() {
        RevisionVault vault = Check.vaultWith(0, "abcdefghij", "abcdXYghij");
        Check.dueText("chunk", Check.chunkOf(vault, 0, 1), Check.bytes('d', 4, 6, 2, 'X', 'Y'));
        dueWrong(vault, 11, 'd' ^ 'u', 1);
        dueWrong(vault, 11, 'd' ^ 'x', 1);
        dueWrong(vault, 12, 4 ^ 7, 1);
        dueWrong(vault, 12, 4 ^ 5, 1);
        dueWrong(vault, 13, 6 ^ 11, 1);
        dueWrong(vault, 13, 6 ^ 255, 1);
        dueWrong(vault, 13, 6 ^ 3, 1);
        dueWrong(vault, 14, 2 ^ 1, 1);
        dueWrong(vault, 14, 2 ^ 3, 1);
        dueWrong(vault, 15, 1, 1);
        dueWrong(vault, 16, 1, 1);
    }

    static void promise17WrongBasesAreOnlyLookedAtForTheirText() {
        RevisionVault vault = Check.vaultWith(0, "abcdefghij", "abcdXYghij");
        Check.due("base", vault.record(0, 1, 3), 0);
        // Byte 5 is the e that the difference replaces: the base is WRONG, what it bears is not.
        vault.damage(0, 5, 1);
        Check.due("wrong", vault.wrong(0), 1);
        Check.throwsOut("the base", REFUSED, () -> vault.text(0, 0, 0));
        Check.dueText("text", Check.textOf(vault, 0, 1), "abcdXYghij");
        vault.damage(0, 5, 1);
        vault.damage(0, 1, 1);
        Check.due("both", vault.wrong(0), 2);
        vault.damage(0, 1, 1);
        vault.damage(0, 0, 1);
        Check.due("both", vault.wrong(0), 2);
    }

    static void promise17WrongIsCountedInOneRepository() {
        RevisionVault vault = Check.vaultWith(0, "ab", "cd", "ef");
        vault.pull(1);
        vault.damage(0, 1, 1);
        vault.damage(0, 4, 1);
        Check.due("wrong", vault.wrong(0), 2);
        Check.due("wrong of the other", vault.wrong(1), 0);
    }

    static void promise17WrongOfNoneAndOfAll() {
        RevisionVault vault = new RevisionVault();
        Check.due("no revision", vault.wrong(0), 0);
        vault.begin(0);
        for (int n = 0; n < 24; n++) {
            vault.append(0, n - 1, -1);
        }
        for (int n = 0; n < 24; n++) {
            Check.due("wrong", vault.wrong(0), n);
            vault.damage(0, n, 1);
        }
        Check.due("all", vault.wrong(0), 24);
    }

    // Promise 18 ---------------------------------------------------------------------------------

    static void promise18HeadsAreNoParents() {
        RevisionVault vault = new RevisionVault();
        vault.begin(0);
        Check.append(vault, 0, "a", -1, -1);
        Check.due("one", vault.heads(0), 1);
        Check.append(vault, 0, "b", -1, -1);
        Check.due("two roots", vault.heads(0), 2);
        Check.append(vault, 0, "c", 0, -1);
        Check.due("p1", vault.heads(0), 2);
        Check.append(vault, 0, "d", -1, 1);
        Check.due("p2", vault.heads(0), 2);
        Check.append(vault, 0, "e", 2, 3);
        Check.due("a merge", vault.heads(0), 1);
        Check.append(vault, 0, "f", 0, 0);
        Check.due("an old parent", vault.heads(0), 2);
        Check.append(vault, 0, "g", 4, 4);
        Check.due("the same twice", vault.heads(0), 2);
        Check.due("the other", vault.heads(1), 0);
        vault.abort(0);
        Check.due("none", vault.heads(0), 0);
    }

    // Promise 19 ---------------------------------------------------------------------------------

    static void promise19CommonIsTheGreatest() {
        RevisionVault vault = new RevisionVault();
        vault.begin(0);
        Check.append(vault, 0, "a", -1, -1);
        Check.append(vault, 0, "b", 0, -1);
        Check.append(vault, 0, "c", 0, -1);
        Check.append(vault, 0, "d", 1, 2);
        Check.append(vault, 0, "e", -1, 2);
        Check.append(vault, 0, "z", -1, -1);
        Check.append(vault, 0, "f", 5, 3);
        Check.due("of itself", vault.common(0, 2, 2), 2);
        Check.due("siblings", vault.common(0, 1, 2), 0);
        Check.due("a parent", vault.common(0, 3, 1), 1);
        Check.due("a parent, changed about", vault.common(0, 1, 3), 1);
        Check.due("through p2", vault.common(0, 3, 4), 2);
        Check.due("far", vault.common(0, 6, 0), 0);
        Check.due("merged", vault.common(0, 6, 4), 2);
        Check.due("another root", vault.common(0, 5, 4), -1);
        Check.due("another root, merged", vault.common(0, 6, 5), 5);
        for (int n : new int[] {-1, 7, 24, 32, Integer.MIN_VALUE, Integer.MAX_VALUE}) {
            Check.due("a " + n, vault.common(0, n, 0), -1);
            Check.due("b " + n, vault.common(0, 0, n), -1);
        }
        Check.due("of none", vault.common(1, 0, 0), -1);
    }

    static void promise19CommonGoesTheWholeWay() {
        RevisionVault vault = new RevisionVault();
        vault.begin(0);
        for (int n = 0; n < 24; n++) {
            Check.append(vault, 0, Check.LETTERS.substring(n, n + 1), n - 2 < 0 ? -1 : n - 2,
                    n == 1 ? 0 : -1);
        }
        Check.due("even and odd", vault.common(0, 22, 23), 0);
        Check.due("odd and odd", vault.common(0, 23, 21), 21);
        Check.due("the last itself", vault.common(0, 23, 23), 23);
        Check.due("behind the last", vault.common(0, 24, 24), -1);
    }
}
