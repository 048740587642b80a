/**
 * The sentences of 'What it is' and 'Terms' that name an edge: each test quotes its sentence and
 * holds it on both sides, the last that is allowed and the first that is not.
 */
final class TermsTest {
    private static final Class<IndexOutOfBoundsException> NO_SUCH = IndexOutOfBoundsException.class;
    private static final Class<IllegalStateException> BAD_STATE = IllegalStateException.class;
    private static final Class<IllegalArgumentException> BAD_PARENT =
            IllegalArgumentException.class;
    private static final Class<UnsupportedOperationException> REFUSED =
            UnsupportedOperationException.class;
    // Worked out outside of Java, from the document's words.
    private static final long NODE_OF_EMPTY = -6692868977465414589L;
    private static final long NODE_OF_A = 2119116820455488966L;
    private static final long NODE_OF_B = 2119115720943860755L;
    private static final long NODE_OF_ABC = -4578904614838057283L;

    public static void main(String[] args) {
        Check.runAll(TermsTest.class, "term");
    }

    private static void dueChunk(RevisionVault vault, int n, String chunk) {
        Check.dueText("chunk " + n, Check.chunkOf(vault, 0, n), chunk);
    }

    private static void dueWrong(String what, RevisionVault vault, int want) {
        Check.due(what + ": WRONG texts", vault.wrong(0), want);
    }

    private static void dueBase(String what, RevisionVault vault, int n, int want) {
        Check.due(what + ": BASE of " + n, vault.record(0, n, 3), want);
    }

    // What it is ---------------------------------------------------------------------------------

    /** "An object is used for at most 512 calls after it has been made". */
    static void termFiveHundredAndTwelveCallsAreAnswered() {
        RevisionVault vault = new RevisionVault();
        vault.type('a');
        vault.begin(0);
        vault.append(0, -1, -1);
        vault.commit(0);
        for (int call = 5; call < 509; call += 2) {
            Check.due("call " + call, vault.damage(0, 1, 'a' ^ 'b'), true);
            Check.due("call " + (call + 1), vault.data(0, 1), call % 4 == 1 ? 'b' : 'a');
        }
        Check.due("call 509", vault.revisions(0), 1);
        Check.due("call 510", vault.wrong(0), 0);
        Check.due("call 511", vault.pull(1), 1);
        Check.due("call 512", vault.text(1, 0, 0), 'a');
    }

    /** The most that a call can have to do, in each of the 512: nothing runs out. */
    static void termFiveHundredAndTwelvePullsAreAnswered() {
        RevisionVault vault = new RevisionVault();
        vault.begin(0);
        for (int n = 0; n < 24; n++) {
            vault.append(0, n - 1, -1);
        }
        vault.commit(0);
        int calls = 26;
        while (calls < 509) {
            vault.fail(1, 50);
            Check.due("pull", vault.pull(1), -2);
            Check.due("recover", vault.recover(1, 0), 24);
            calls += 3;
        }
        Check.due("calls so far", calls, 509);
        Check.due("call 510", vault.pull(1), 24);
        Check.due("call 511", vault.revisions(1), 24);
        Check.due("call 512", vault.wrong(1), 0);
    }

    // The buffer ---------------------------------------------------------------------------------

    /** "THE BUFFER has at most 60 characters". */
    static void termBufferHasSixtyCharacters() {
        for (int last = 1; last <= 8; last++) {
            RevisionVault vault = new RevisionVault();
            Check.type(vault, Check.LETTERS.substring(0, 60 - last));
            long eight = Check.pack(Check.LETTERS.substring(60 - last));
            Check.due("up to 60 by " + last, vault.type(eight), true);
            Check.due("the 61st", vault.type('q'), false);
            Check.dueText("buffer", Check.bufferOf(vault), Check.LETTERS);
            RevisionVault over = new RevisionVault();
            Check.type(over, Check.LETTERS.substring(0, 61 - last));
            Check.due("up to 61 by " + last, over.type(eight), false);
            Check.dueText("buffer", Check.bufferOf(over), Check.LETTERS.substring(0, 61 - last));
        }
    }

    /** "(codes 10 and 32 .. 126)", in each of the eight places. */
    static void termBufferTakesItsCodes() {
        for (int place = 0; place < 64; place += 8) {
            for (int code = 1; code < 256; code++) {
                boolean character = code == 10 || code >= 32 && code <= 126;
                RevisionVault vault = new RevisionVault();
                Check.due("code " + code + " at " + place, vault.type((long) code << place),
                        character);
                Check.dueText("buffer", Check.bufferOf(vault),
                        character ? Check.bytes(code) : "");
            }
        }
    }

    /** "A TEXT is what the buffer holds, also an empty one." */
    static void termTextMayBeEmpty() {
        RevisionVault vault = Check.vaultWith(0, "", "a", "");
        int[] offsets = {0, 1, 3};
        for (int n = 0; n < 3; n++) {
            Check.due("OFFSET", vault.record(0, n, 0), offsets[n]);
            Check.due("LENGTH", vault.record(0, n, 2), n == 1 ? 1 : 0);
        }
        dueChunk(vault, 0, "u");
        dueChunk(vault, 2, "u");
        Check.due("no character", vault.text(0, 0, 0), 0);
        dueWrong("empty ones", vault, 0);
        Check.due("pull", vault.pull(1), 3);
        Check.due("LENGTH there", vault.record(1, 2, 2), 0);
    }

    /** The texts at the other end: 60 characters in one revision, whole and packed. */
    static void termTextMayHaveSixtyCharacters() {
        RevisionVault vault = Check.vaultWith(0, Check.LETTERS, Check.repeat('~', 60));
        dueChunk(vault, 0, "u" + Check.LETTERS);
        dueChunk(vault, 1, Check.bytes('x', 60, '~'));
        for (int n = 0; n < 2; n++) {
            Check.due("LENGTH", vault.record(0, n, 2), 60);
            Check.due("none behind it", vault.text(0, n, 60), 0);
        }
        Check.due("the last", vault.text(0, 0, 59), '7');
        Check.due("the last", vault.text(0, 1, 59), '~');
    }

    // Repositories and records -------------------------------------------------------------------

    /** "A REPOSITORY (0 or 1)": both are there, -1 and 2 are not, for each call. */
    static void termRepositoriesAreTwo() {
        for (int r = -1; r <= 2; r++) {
            boolean there = r == 0 || r == 1;
            int at = r;
            RevisionVault vault = new RevisionVault();
            dueThere("begin", there, () -> vault.begin(at), "0");
            dueThere("append", there, () -> vault.append(at, -1, -1), "0");
            dueThere("abort", there, () -> vault.abort(at), "1");
            dueThere("begin", there, () -> vault.begin(at), "0");
            dueThere("append", there, () -> vault.append(at, -1, -1), "0");
            dueThere("commit", there, () -> vault.commit(at), "0");
            dueThere("text", there, () -> vault.text(at, 0, 0), "0");
            dueThere("pull", there, () -> vault.pull(at), "0");
            Check.due("revisions", vault.revisions(r), there ? 1 : -1);
            Check.due("record", vault.record(r, 0, 1), there ? 1 : -1);
            Check.due("node", vault.node(r, 0), there ? NODE_OF_EMPTY : 0);
            Check.due("data", vault.data(r, 0), there ? 'u' : -1);
            Check.due("data, -1", vault.data(r, -1), there ? 1 : -1);
            Check.due("wrong", vault.wrong(r), there ? 0 : -1);
            Check.due("heads", vault.heads(r), there ? 1 : -1);
            Check.due("common", vault.common(r, 0, 0), there ? 0 : -1);
            Check.due("damage", vault.damage(r, 0, 1), there);
            Check.due("fail", vault.fail(r, 1), there);
            dueThere("begin", there, () -> vault.begin(at), "-2");
            dueThere("recover", there, () -> vault.recover(at, 0), "0");
        }
    }

    private static void dueThere(String what, boolean there, Check.Call call, String answer) {
        Check.dueText(what, Check.outcome(call),
                there ? answer : "throws.IndexOutOfBoundsException");
    }

    /** "DATA .. and INDEX .. both empty at first, and a JOURNAL or none"; "It is UP (at first)". */
    static void termRepositoriesAreEmptyAndUpAtFirst() {
        for (int r = 0; r < 2; r++) {
            RevisionVault vault = new RevisionVault();
            int at = r;
            Check.due("revisions", vault.revisions(r), 0);
            Check.due("data", vault.data(r, -1), 0);
            Check.due("byte 0", vault.data(r, 0), -1);
            Check.throwsOut("no journal", BAD_STATE, () -> vault.commit(at));
            Check.throwsOut("UP", BAD_STATE, () -> vault.recover(at, 0));
            Check.due("begin", vault.begin(r), 0);
        }
    }

    /** "Its REVISIONS are numbered by their records from 0." */
    static void termRevisionsAreNumberedFromNought() {
        RevisionVault vault = Check.vaultWith(0, "a", "b");
        Check.due("-1", vault.node(0, -1), 0);
        Check.due("0", vault.node(0, 0), NODE_OF_A);
        Check.due("1 is there", vault.record(0, 1, 0), 2);
        Check.due("2 is not", vault.record(0, 2, 0), -1);
        vault.begin(0);
        Check.due("the next", vault.append(0, -1, -1), 2);
    }

    /** "At most 24 records". */
    static void termRecordsAreTwentyFour() {
        RevisionVault vault = new RevisionVault();
        vault.begin(0);
        for (int n = 0; n < 24; n++) {
            Check.due("append", vault.append(0, n - 1, -1), n);
        }
        Check.throwsOut("the 25th", REFUSED, () -> vault.append(0, 23, -1));
        Check.due("revisions", vault.revisions(0), 24);
        Check.due("the last", vault.record(0, 23, 4), 22);
        Check.due("behind it", vault.record(0, 24, 4), -1);
    }

    /** "and 600 bytes of DATA": what the chosen chunk has is what counts, not the text's length. */
    static void termDataHasSixHundredBytes() {
        dueFit("!?", "u!?", 3);
        dueFit("", "u", 1);
        dueFit(Check.repeat('#', 60), Check.bytes('x', 60, '#'), 3);
        dueFit(Check.turned(11), "u" + Check.turned(11), 61);
    }

    private static void dueFit(String text, String chunk, int size) {
        RevisionVault fits = Check.vaultFilled(0, 600 - size);
        int next = fits.revisions(0);
        Check.due("600", Check.append(fits, 0, text, -1, -1), next);
        dueChunk(fits, next, chunk);
        Check.due("data", fits.data(0, -1), 600);
        RevisionVault over = Check.vaultFilled(0, 601 - size);
        Check.throwsOut("601", REFUSED, () -> Check.append(over, 0, text, -1, -1));
        Check.due("data", over.data(0, -1), 601 - size);
    }

    /** The same for a difference, which is five bytes where its text has more than forty. */
    static void termDataHasSixHundredBytesWithADifference() {
        for (int free = 4; free <= 5; free++) {
            RevisionVault vault = Check.vaultFilled(0, 600 - free);
            int latest = vault.revisions(0) - 1;
            String longer = Check.textOf(vault, 0, latest) + "+";
            if (free == 5) {
                Check.due("600", Check.append(vault, 0, longer, -1, -1), latest + 1);
                dueBase("600", vault, latest + 1, latest);
                Check.due("data", vault.data(0, -1), 600);
            } else {
                Check.throwsOut("601", REFUSED, () -> Check.append(vault, 0, longer, -1, -1));
            }
        }
    }

    /** "OFFSET and SIZE (where in DATA its chunk lies, and how many bytes it has)". */
    static void termRecordsLieSideBySide() {
        RevisionVault vault = Check.vaultWith(0, "abcdefg", "abcdefgh", "", "yyyy", "z");
        int[] offsets = {0, 8, 13, 14, 17};
        int[] sizes = {8, 5, 1, 3, 2};
        for (int n = 0; n < 5; n++) {
            Check.due("OFFSET", vault.record(0, n, 0), offsets[n]);
            Check.due("SIZE", vault.record(0, n, 1), sizes[n]);
        }
        Check.due("data", vault.data(0, -1), 19);
        vault.begin(0);
        Check.append(vault, 0, "goes", -1, -1);
        vault.abort(0);
        vault.begin(0);
        Check.append(vault, 0, "stays", -1, -1);
        Check.due("OFFSET of one that went before", vault.record(0, 5, 0), 19);
        dueChunk(vault, 5, "ustays");
    }

    /** "PARENTS p1 and p2 (revisions with lesser numbers, -1 for none)". */
    static void termParentsHaveLesserNumbers() {
        for (int last = 0; last < 4; last++) {
            RevisionVault vault = new RevisionVault();
            vault.begin(0);
            for (int n = 0; n <= last; n++) {
                Check.append(vault, 0, Check.turned(n).substring(0, 2), -1, -1);
            }
            int next = last + 1;
            Check.throwsOut("p1, itself", BAD_PARENT, () -> vault.append(0, next, -1));
            Check.throwsOut("p2, itself", BAD_PARENT, () -> vault.append(0, -1, next));
            Check.throwsOut("p1 -2", BAD_PARENT, () -> vault.append(0, -2, -1));
            Check.throwsOut("p2 -2", BAD_PARENT, () -> vault.append(0, -1, -2));
            Check.due("the greatest and the least", vault.append(0, last, 0), next);
            Check.due("p1", vault.record(0, next, 4), last);
            Check.due("p2", vault.record(0, next, 5), 0);
            Check.append(vault, 0, "none", -1, -1);
            Check.due("p1", vault.record(0, next + 1, 4), -1);
            Check.due("p2", vault.record(0, next + 1, 5), -1);
        }
    }

    // The node -----------------------------------------------------------------------------------

    /** "(wrapping)"; the start, the factor, and the characters one after another. */
    static void termNodeOfTextsWithoutParents() {
        dueNode("", NODE_OF_EMPTY);
        dueNode("a", NODE_OF_A);
        dueNode("b", NODE_OF_B);
        dueNode("abc", NODE_OF_ABC);
        dueNode("\n", 2119159701408989195L);
        dueNode("~", 2119146507269450663L);
        dueNode("~\n ", -6134997239911076011L);
        dueNode(Check.repeat('a', 60), 3832138694886741167L);
    }

    private static void dueNode(String text, long want) {
        Check.due("node of '" + text + "'", Check.vaultWith(0, text).node(0, 0), want);
    }

    /** "the lesser (as longs) of the nodes of the two parents (0 for none)", then the greater. */
    static void termNodeTakesTheLesserParentFirst() {
        dueNodeOfX("a negative one and none", 0, -1, -4495570306600433162L);
        dueNodeOfX("a positive one and none", 1, -1, -5823257373605985308L);
        dueNodeOfX("a negative and a positive one", 0, 1, 8217734193128052139L);
        dueNodeOfX("two positive ones", 1, 2, 6213177248232473308L);
        dueNodeOfX("two negative ones", 0, 3, -5625462785428796510L);
        dueNodeOfX("a positive one twice", 1, 1, 8556344987876806293L);
        dueNodeOfX("a negative one twice", 0, 0, 2090396284430915337L);
    }

    /** Parents: 0 the empty text, 1 "a", 2 "b", 3 "abc", all without parents themselves. */
    private static void dueNodeOfX(String what, int p1, int p2, long want) {
        for (int turn = 0; turn < 2; turn++) {
            RevisionVault vault = new RevisionVault();
            vault.begin(0);
            for (String text : new String[] {"", "a", "b", "abc"}) {
                Check.append(vault, 0, text, -1, -1);
            }
            int n = Check.append(vault, 0, "x", turn == 0 ? p1 : p2, turn == 0 ? p2 : p1);
            Check.due(what, vault.node(0, n), want);
        }
    }

    // Chunks -------------------------------------------------------------------------------------

    /** "PACKED: 'x', then for each run (as many equal characters as stand side by side)". */
    static void termPackedRunsAreAsLongAsCanBe() {
        dueSnapshot("aaa", Check.bytes('x', 3, 'a'));
        dueSnapshot("aaaabaaaa", Check.bytes('x', 4, 'a', 1, 'b', 4, 'a'));
        dueSnapshot("baaaaaaac", Check.bytes('x', 1, 'b', 7, 'a', 1, 'c'));
        dueSnapshot("aaaaaab", Check.bytes('x', 6, 'a', 1, 'b'));
        dueSnapshot("baaaaaa", Check.bytes('x', 1, 'b', 6, 'a'));
        dueSnapshot(Check.repeat('q', 59) + "r", Check.bytes('x', 59, 'q', 1, 'r'));
    }

    /** "of whole and packed the shorter (whole if they are alike) is the SNAPSHOT". */
    static void termSnapshotIsWholeIfBothAreAlike() {
        dueSnapshot("", "u");
        dueSnapshot("aa", "uaa");
        dueSnapshot("aaa", Check.bytes('x', 3, 'a'));
        dueSnapshot("aabb", "uaabb");
        dueSnapshot("aaab", "uaaab");
        dueSnapshot("aaabb", Check.bytes('x', 3, 'a', 2, 'b'));
        dueSnapshot("aaabc", "uaaabc");
        dueSnapshot("aaaabc", "uaaaabc");
        dueSnapshot("aaaaabc", Check.bytes('x', 5, 'a', 1, 'b', 1, 'c'));
    }

    private static void dueSnapshot(String text, String chunk) {
        RevisionVault vault = Check.vaultWith(0, text);
        dueChunk(vault, 0, chunk);
        Check.dueText("text", Check.textOf(vault, 0, 0), text);
    }

    /** "a is the length of the longest common beginning of both texts". */
    static void termDifferenceBeginsBehindTheCommonBeginning() {
        dueDifference("abcdefgh", "abcdefghi", Check.bytes('d', 8, 8, 1, 'i'));
        dueDifference("abcdefghi", "abcdefgh", Check.bytes('d', 8, 9, 0));
        dueDifference("abcdefgh", "abcdefgh", Check.bytes('d', 8, 8, 0));
        dueDifference("abcdefgh", "zbcdefgh", Check.bytes('d', 0, 1, 1, 'z'));
        dueDifference("abcdefgh", "azcdefgh", Check.bytes('d', 1, 2, 1, 'z'));
        dueDifference(Check.LETTERS, Check.LETTERS, Check.bytes('d', 60, 60, 0));
    }

    /** "with the longest common end of what lies behind that in both, b is where it begins". */
    static void termDifferenceEndsBeforeTheCommonEnd() {
        dueDifference("abcdefgh", "abcdefgz", Check.bytes('d', 7, 8, 1, 'z'));
        dueDifference("abcdefgh", "abcdefzh", Check.bytes('d', 6, 7, 1, 'z'));
        dueDifference("abcdefgh", "bcdefgh", Check.bytes('d', 0, 1, 0));
        dueDifference("abcdefgh", "zabcdefgh", Check.bytes('d', 0, 0, 1, 'z'));
        // The end of each would go further, into what the common beginning has already.
        dueDifference("abcabcdef", "abcabcabcdef", Check.bytes('d', 6, 6, 3, 'a', 'b', 'c'));
        dueDifference("abcabcabcdef", "abcabcdef", Check.bytes('d', 6, 9, 0));
        dueDifference("abcdefa", "abcdefabcdefa",
                Check.bytes('d', 7, 7, 6, 'b', 'c', 'd', 'e', 'f', 'a'));
        dueDifference("abcdefabcdefa", "abcdefa", Check.bytes('d', 7, 13, 0));
    }

    private static void dueDifference(String base, String text, String chunk) {
        RevisionVault vault = Check.vaultWith(0, base, text);
        dueBase(text, vault, 1, 0);
        dueChunk(vault, 1, chunk);
        Check.dueText("text", Check.textOf(vault, 0, 1), text);
    }

    // When a text is WRONG -----------------------------------------------------------------------

    /** "the first byte of a chunk is not u or x without a BASE": any other, the rest as it was. */
    static void termWrongFirstByteWithoutABase() {
        for (String text : new String[] {"", "a", "abcd", "aaaaabbbb"}) {
            for (int other = 0; other < 256; other++) {
                RevisionVault vault = Check.vaultWith(0, text);
                int mark = vault.data(0, 0);
                // Without bytes behind it 'x' says the same empty text as 'u'.
                boolean right = other == mark || text.isEmpty() && other == 'x';
                Check.put(vault, 0, other);
                dueWrong(text + " with first byte " + other, vault, right ? 0 : 1);
            }
        }
    }

    /** The same where 'd' would say the right text, taken as a difference against an empty one. */
    static void termWrongDifferenceWithoutABase() {
        RevisionVault vault = Check.vaultWith(0, "abcdefghij", "defghij");
        dueChunk(vault, 1, Check.bytes('d', 0, 3, 0));
        Check.put(vault, 1, 0);
        Check.put(vault, 2, 0);
        Check.put(vault, 3, 7);
        Check.put(vault, 13, 0);
        Check.put(vault, 0, 'd');
        dueChunk(vault, 0, Check.bytes('d', 0, 0, 7) + "defghij");
        dueChunk(vault, 1, Check.bytes('d', 0, 0, 0));
        dueWrong("a difference without a BASE", vault, 2);
    }

    /** "or not d with one": any other, and the rest as it was. */
    static void termWrongFirstByteWithABase() {
        for (int other = 0; other < 256; other++) {
            RevisionVault vault = Check.vaultWith(0, "abcdefghij", "abcdXYghij");
            dueChunk(vault, 1, Check.bytes('d', 4, 6, 2, 'X', 'Y'));
            Check.put(vault, 11, other);
            dueWrong("first byte " + other, vault, other == 'd' ? 0 : 1);
        }
    }

    /** The same where a snapshot, on the way, would say what is needed. */
    static void termWrongSnapshotWithABase() {
        String letters = "aabbefghijklmnopqrst";
        for (String snapshot : new String[] {"uaabb", Check.bytes('x', 2, 'a', 2, 'b')}) {
            RevisionVault vault = Check.vaultWith(0, letters, letters + "1", "aabbQRSTUV");
            dueChunk(vault, 1, Check.bytes('d', 20, 20, 1, '1'));
            dueBase("the third", vault, 2, 1);
            dueChunk(vault, 2, Check.bytes('d', 4, 21, 6) + "QRSTUV");
            Check.put(vault, 28, 4);
            for (int k = 0; k < 5; k++) {
                Check.put(vault, 21 + k, snapshot.charAt(k));
            }
            dueWrong("a snapshot with a BASE", vault, 2);
            Check.put(vault, 28, 21);
            for (int k = 0; k < 5; k++) {
                Check.put(vault, 21 + k, Check.bytes('d', 20, 20, 1, '1').charAt(k));
            }
            dueWrong("as it was", vault, 0);
        }
    }

    /** "it is packed and the bytes behind 'x' are not pairs": eight bytes are, nine are not. */
    static void termWrongPackedWithHalfAPair() {
        for (int behind = 8; behind <= 9; behind++) {
            String base = "abcdefghi".substring(0, behind);
            RevisionVault vault = Check.vaultWith(0, base, "abcdZ");
            dueChunk(vault, 1, Check.bytes('d', 4, behind, 1, 'Z'));
            for (int k = 0; k < 4; k++) {
                Check.put(vault, 1 + 2 * k, 1);
                Check.put(vault, 2 + 2 * k, base.charAt(k));
            }
            Check.put(vault, 0, 'x');
            Check.put(vault, behind + 3, 4);
            dueWrong(behind + " bytes behind 'x'", vault, behind == 8 ? 1 : 2);
        }
    }

    /** The same for one byte behind 'x', and for none. */
    static void termWrongPackedWithOneByte() {
        RevisionVault one = Check.vaultWith(0, "a");
        Check.put(one, 0, 'x');
        dueWrong("one byte", one, 1);
        RevisionVault none = Check.vaultWith(0, "");
        Check.put(none, 0, 'x');
        dueWrong("no byte", none, 0);
        Check.due("no character", none.text(0, 0, 0), 0);
    }

    /** "each with a number above 0": 1 is, 0 is not, though what is built on it would be right. */
    static void termWrongPackedWithARunOfNone() {
        RevisionVault last = Check.vaultWith(0, "aaaaabbbbb", "aaaaaXYZW12");
        dueChunk(last, 1, Check.bytes('d', 5, 10, 6) + "XYZW12");
        Check.put(last, 3, 1);
        Check.put(last, 7, 6);
        dueWrong("a run of one, the last", last, 1);
        Check.put(last, 3, 0);
        Check.put(last, 7, 5);
        dueWrong("a run of none, the last", last, 2);
        RevisionVault first = Check.vaultWith(0, "aaaaabbbbb", "XYZW12bbbbb");
        dueChunk(first, 1, Check.bytes('d', 0, 5, 6) + "XYZW12");
        Check.put(first, 1, 1);
        Check.put(first, 7, 1);
        dueWrong("a run of one, the first", first, 1);
        Check.put(first, 1, 0);
        Check.put(first, 7, 0);
        dueWrong("a run of none, the first", first, 2);
    }

    /** "when it has less than four bytes": four are right; SIZE is never less, nor damaged. */
    static void termWrongDifferenceMayHaveFourBytes() {
        RevisionVault vault = Check.vaultWith(0, "abcdef", "abcf");
        dueChunk(vault, 1, Check.bytes('d', 3, 5, 0));
        dueWrong("four bytes", vault, 0);
        Check.dueText("text", Check.textOf(vault, 0, 1), "abcf");
    }

    /** "a > b": a = b is right, a = b + 1 is not, though a text of the right kind would come. */
    static void termWrongDifferenceThatGoesBack() {
        RevisionVault vault = Check.vaultWith(0, Check.repeat('a', 10),
                Check.repeat('a', 6) + "BCDE" + Check.repeat('a', 6));
        dueChunk(vault, 1, Check.bytes('d', 6, 6, 6) + "BCDEaa");
        dueWrong("a = b", vault, 0);
        Check.put(vault, 1, 11);
        Check.put(vault, 5, 7);
        dueWrong("a = b - 1", vault, 1);
        Check.put(vault, 1, 9);
        Check.put(vault, 5, 5);
        dueWrong("a = b + 1", vault, 2);
    }

    /** "b is above the length of the base's text": at it is right, one above is not. */
    static void termWrongDifferenceBehindTheBase() {
        RevisionVault vault = Check.vaultWith(0, Check.repeat('a', 10), "aaaaaBCDEFGH");
        dueChunk(vault, 1, Check.bytes('d', 5, 10, 7) + "BCDEFGH");
        dueWrong("b at the length", vault, 0);
        Check.put(vault, 5, 11);
        dueWrong("b one above", vault, 1);
        Check.put(vault, 1, 11);
        dueWrong("b at a length that the base has now", vault, 1);
        Check.dueText("text", Check.textOf(vault, 0, 1), "aaaaaBCDEFGH");
        Check.put(vault, 5, 12);
        dueWrong("b one above that", vault, 2);
        Check.put(vault, 5, 255);
        dueWrong("b far above that", vault, 2);
    }

    /** "n is not the number of bytes behind it": one less, and the base has the byte that lacks. */
    static void termWrongDifferenceWithOneByteTooMany() {
        RevisionVault vault = Check.vaultWith(0, "abcdefghij", "abcdXYghij");
        dueChunk(vault, 1, Check.bytes('d', 4, 6, 2, 'X', 'Y'));
        dueWrong("n as it is", vault, 0);
        Check.put(vault, 6, 'Y');
        Check.put(vault, 13, 5);
        Check.put(vault, 14, 1);
        dueWrong("n one less", vault, 2);
    }

    /** One more, where the chunk behind this one has the byte that is asked for. */
    static void termWrongDifferenceWithOneByteTooFew() {
        RevisionVault vault = Check.vaultWith(0, "abcdefghij", "abcdXYghij", "");
        dueChunk(vault, 1, Check.bytes('d', 4, 6, 2, 'X', 'Y'));
        Check.due("OFFSET", vault.record(0, 2, 0), 17);
        Check.put(vault, 17, 'g');
        dueWrong("the last alone", vault, 1);
        Check.put(vault, 13, 7);
        Check.put(vault, 14, 3);
        dueWrong("n one more", vault, 2);
    }

    /** "a text on the way gets more than 60 characters": 60 may be, 61 not, packed. */
    static void termWrongPackedBeyondSixty() {
        RevisionVault vault = Check.vaultWith(0, Check.repeat('a', 20), "aaaaabcdefgh");
        dueChunk(vault, 1, Check.bytes('d', 5, 20, 7) + "bcdefgh");
        Check.put(vault, 1, 60);
        Check.put(vault, 5, 60);
        dueWrong("60 on the way", vault, 1);
        Check.put(vault, 1, 61);
        Check.put(vault, 5, 61);
        dueWrong("61 on the way", vault, 2);
    }

    /** The same in several runs, of which each alone is short enough. */
    static void termWrongPackedBeyondSixtyInSeveralRuns() {
        String base = Check.repeat('a', 20) + Check.repeat('b', 20);
        RevisionVault vault = Check.vaultWith(0, base, "aaaaaZYXW");
        dueChunk(vault, 0, Check.bytes('x', 20, 'a', 20, 'b'));
        dueChunk(vault, 1, Check.bytes('d', 5, 40, 4) + "ZYXW");
        Check.put(vault, 3, 40);
        Check.put(vault, 7, 60);
        dueWrong("20 and 40", vault, 1);
        Check.put(vault, 3, 41);
        Check.put(vault, 7, 61);
        dueWrong("20 and 41", vault, 2);
    }

    /** The same for a difference. */
    static void termWrongDifferenceBeyondSixty() {
        RevisionVault vault = Check.vaultWith(0, Check.repeat('a', 20),
                Check.repeat('a', 20) + "BCDEF", Check.repeat('a', 20) + "GHIJK");
        dueChunk(vault, 1, Check.bytes('d', 20, 20, 5) + "BCDEF");
        dueChunk(vault, 2, Check.bytes('d', 20, 25, 5) + "GHIJK");
        Check.put(vault, 1, 55);
        Check.put(vault, 14, 60);
        dueWrong("60 on the way", vault, 2);
        Check.dueText("text", Check.textOf(vault, 0, 2), Check.repeat('a', 20) + "GHIJK");
        Check.put(vault, 1, 56);
        Check.put(vault, 14, 61);
        dueWrong("61 on the way", vault, 3);
    }

    /** A run that is too long is not passed over, where the rest would be what is needed. */
    static void termWrongRunBeyondSixtyIsNotPassedOver() {
        RevisionVault vault = Check.vaultWith(0, "aaaaabbbbb", "aaaaaXYZW12");
        dueChunk(vault, 1, Check.bytes('d', 5, 10, 6) + "XYZW12");
        Check.put(vault, 7, 5);
        dueWrong("b's left over", vault, 1);
        for (int run : new int[] {56, 61, 255}) {
            Check.put(vault, 3, run);
            dueWrong("5 and " + run, vault, 2);
        }
    }

    /** A difference that can't be applied is not passed over, where its text is the base's. */
    static void termWrongDifferenceIsNotPassedOver() {
        RevisionVault vault = Check.vaultWith(0, "abcdefgh", "abcdefgh");
        dueChunk(vault, 1, Check.bytes('d', 8, 8, 0));
        dueWrong("as it was", vault, 0);
        int[][] damaged = {{'u', 8, 8, 0}, {'e', 8, 8, 0}, {'d', 9, 8, 0}, {'d', 8, 9, 0},
            {'d', 9, 9, 0}, {'d', 8, 8, 1}, {'d', 8, 7, 0}, {'d', 8, 8, 255}};
        for (int[] chunk : damaged) {
            for (int k = 0; k < 4; k++) {
                Check.put(vault, 9 + k, chunk[k]);
            }
            dueWrong(java.util.Arrays.toString(chunk), vault, 1);
        }
        // Nothing is replaced by nothing, wherever that is.
        for (int a = 0; a <= 8; a++) {
            Check.put(vault, 9, 'd');
            Check.put(vault, 10, a);
            Check.put(vault, 11, a);
            Check.put(vault, 12, 0);
            dueWrong("a = b = " + a, vault, 0);
        }
    }

    /** "the result has not the record's LENGTH": one more and one less. */
    static void termWrongLength() {
        RevisionVault vault = Check.vaultWith(0, Check.repeat('a', 10));
        Check.put(vault, 1, 9);
        dueWrong("one less", vault, 1);
        Check.put(vault, 1, 11);
        dueWrong("one more", vault, 1);
        Check.put(vault, 1, 10);
        dueWrong("as it was", vault, 0);
    }

    /** "or not its NODE": the same length, one character another. */
    static void termWrongNode() {
        RevisionVault vault = Check.vaultWith(0, "abcdefghij", "abcdXYghij");
        for (int k : new int[] {1, 10}) {
            for (int bit = 1; bit < 256; bit *= 2) {
                vault.damage(0, k, bit);
                dueWrong("a character of both", vault, 2);
                vault.damage(0, k, bit);
            }
        }
        vault.damage(0, 16, 1);
        dueWrong("a character of the difference", vault, 1);
    }

    /** "(Nodes and LENGTHs of the bases on the way are not looked at.)" */
    static void termWrongBasesOnTheWayAreNotLookedAt() {
        RevisionVault node = Check.vaultWith(0, "abcdefghij", "abcdXYghij", "abcdXYghijk");
        dueBase("the last", node, 2, 1);
        Check.put(node, 5, '?');
        dueWrong("the NODE of the first", node, 1);
        Check.put(node, 5, 'e');
        RevisionVault length = Check.vaultWith(0, Check.repeat('a', 10), "aaaaaBCDEFGH");
        Check.put(length, 1, 11);
        Check.put(length, 5, 11);
        dueWrong("the LENGTH of the first", length, 1);
        Check.dueText("text", Check.textOf(length, 0, 1), "aaaaaBCDEFGH");
    }

    /** "else the base's text is built and its chunk applied": through all six of a chain. */
    static void termWrongGoesUpTheWholeChain() {
        String text = Check.LETTERS.substring(0, 40);
        RevisionVault vault = Check.vaultWith(0, text, text + "1", text + "12", text + "123",
                text + "1234", text + "12345");
        for (int n = 0; n < 6; n++) {
            dueBase("a chain", vault, n, n - 1);
            int k = vault.record(0, n, 0);
            vault.damage(0, k, 1);
            dueWrong("byte " + k, vault, 6 - n);
            vault.damage(0, k, 1);
        }
        dueWrong("as it was", vault, 0);
    }

    // Appending ----------------------------------------------------------------------------------

    /** "if some revision has the node of that already, the least such one is the answer". */
    static void termAppendingWhatIsThereDoesNothing() {
        RevisionVault vault = Check.vaultWith(0, "one", "two", "two", "one");
        vault.begin(0);
        vault.fail(0, 1);
        Check.due("the first", Check.append(vault, 0, "one", -1, -1), 0);
        Check.due("the second", Check.append(vault, 0, "two", 0, -1), 1);
        Check.due("the second, parents changed about", vault.append(0, -1, 0), 1);
        Check.due("the third", vault.append(0, 1, -1), 2);
        Check.due("the last", Check.append(vault, 0, "one", 2, -1), 3);
        Check.due("revisions", vault.revisions(0), 4);
        vault.fail(0, 0);
        Check.due("with another parent it is new", vault.append(0, 3, -1), 4);
        Check.due("another text is new", Check.append(vault, 0, "on", 2, -1), 5);
    }

    /** The same where what is there is WRONG, and where there is no room for anything new. */
    static void termAppendingWhatIsThereWhenItIsWrongOrAllIsFull() {
        RevisionVault vault = Check.vaultFilled(0, 600);
        vault.damage(0, 1, 1);
        dueWrong("the first", vault, 1);
        Check.due("the first", Check.append(vault, 0, Check.turned(0), -1, -1), 0);
        Check.due("the second", Check.append(vault, 0, Check.turned(1), -1, -1), 1);
        Check.throwsOut("a new one", REFUSED, () -> Check.append(vault, 0, "", -1, -1));
    }

    /** "Of p1, p2 and the latest revision .. those that are there .. are CANDIDATES". */
    static void termCandidatesAreThree() {
        String[] texts = {"0123456789", "abcdefghij", "ABCDEFGHIJ", ".,;:-_+*#~"};
        for (int base = 0; base < 4; base++) {
            RevisionVault vault = Check.vaultWith(0, texts);
            vault.begin(0);
            Check.append(vault, 0, texts[base] + "!", 0, 1);
            dueBase(texts[base], vault, 4, base == 2 ? -1 : base);
        }
        RevisionVault first = Check.vaultWith(0, texts[0]);
        dueBase("the first of all", first, 0, -1);
    }

    /** "and whose text can be built (is not WRONG)": each of the three in turn. */
    static void termCandidatesAreNotWrong() {
        for (int candidate = 0; candidate < 3; candidate++) {
            String[] texts = {"0123456789", "abcdefghij", "ABCDEFGHIJ"};
            RevisionVault vault = Check.vaultWith(0, texts);
            vault.begin(0);
            vault.damage(0, 11 * candidate + 1, 1);
            Check.append(vault, 0, texts[candidate] + "!", 0, 1);
            dueBase("WRONG", vault, 3, -1);
            vault.abort(0);
            vault.damage(0, 11 * candidate + 1, 1);
            vault.begin(0);
            Check.append(vault, 0, texts[candidate] + "!", 0, 1);
            dueBase("right", vault, 3, candidate);
        }
    }

    /** A right text on a base that is WRONG is a candidate; the base itself is none. */
    static void termCandidatesMayStandOnAWrongBase() {
        RevisionVault vault = Check.vaultWith(0, "abcdefghij", "abcdXYghij");
        vault.begin(0);
        Check.put(vault, 5, '?');
        dueWrong("the first", vault, 1);
        Check.append(vault, 0, "abcdXYghijk", 1, -1);
        dueBase("on the second", vault, 2, 1);
        Check.append(vault, 0, "QRSTUVWXYZ", -1, -1);
        Check.append(vault, 0, "abcd?fghijk", -1, 0);
        dueBase("not on the first", vault, 4, -1);
    }

    /** "it and its base and that one's base and so on are at most 6 revisions". */
    static void termChainsHaveSixRevisions() {
        String text = Check.LETTERS.substring(0, 40);
        RevisionVault vault = Check.vaultWith(0, text, text + "1", text + "12", text + "123",
                text + "1234");
        vault.begin(0);
        Check.append(vault, 0, text + "12345", 4, -1);
        dueBase("the sixth", vault, 5, 4);
        Check.append(vault, 0, text + "123456", 5, -1);
        dueBase("the seventh", vault, 6, -1);
        Check.append(vault, 0, text + "12347", 4, 5);
        dueBase("another sixth", vault, 7, 4);
        dueWrong("all are right", vault, 0);
    }

    /** "and their chunks together have at most 2 * LENGTH + 16 bytes", of two chunks. */
    static void termChainsHaveTwiceTheLengthAndSixteenBytes() {
        String text = Check.LETTERS.substring(0, 40);
        RevisionVault vault = Check.vaultWith(0, text, text.substring(0, 14) + "!");
        Check.due("LENGTH", vault.record(0, 1, 2), 15);
        Check.due("SIZE", vault.record(0, 0, 1) + vault.record(0, 1, 1), 46);
        dueBase("46 bytes of 46", vault, 1, 0);
        vault = Check.vaultWith(0, text, text.substring(0, 13) + "!!");
        dueBase("47 bytes of 46", vault, 1, -1);
        dueChunk(vault, 1, "u" + text.substring(0, 13) + "!!");
    }

    /** The same for three chunks: 21 and 16 bytes of the bases, 5 or 6 of the new one. */
    static void termChainsHaveTheBytesOfAllTheirChunks() {
        String first = Check.LETTERS.substring(0, 20);
        String second = first + "ABCDEFGHIJKL";
        RevisionVault vault = Check.vaultWith(0, first, second, first.substring(0, 12) + "!");
        dueBase("the second", vault, 1, 0);
        Check.due("LENGTH", vault.record(0, 2, 2), 13);
        Check.due("bytes", vault.data(0, -1), 42);
        dueBase("42 of 42", vault, 2, 1);
        vault = Check.vaultWith(0, first, second, first.substring(0, 11) + "!!");
        dueBase("43 of 42", vault, 2, -1);
    }

    /** A candidate with the lesser chunk but too many bytes below it makes way for another. */
    static void termChainsThatAreTooLongMakeWayForOthers() {
        String far = Check.LETTERS.substring(0, 50);
        RevisionVault vault = Check.vaultWith(0, far, far.substring(0, 10));
        vault.begin(0);
        dueBase("55 of 36", vault, 1, -1);
        Check.append(vault, 0, far.substring(0, 12), 0, 1);
        dueBase("p2 with 6, as p1 with 4 has 55 of 40", vault, 2, 1);
        Check.due("SIZE", vault.record(0, 2, 1), 6);
    }

    /** "The candidate with the least difference chunk, the first of several, is its BASE". */
    static void termBaseIsTheFirstOfTheLeast() {
        RevisionVault vault = new RevisionVault();
        vault.begin(0);
        for (int k = 1; k <= 3; k++) {
            Check.append(vault, 0, "abcdefghij" + k, -1, -1);
        }
        dueTried(vault, "abcdefghij4", 0, 1, 0);
        dueTried(vault, "abcdefghij4", 1, 0, 1);
        dueTried(vault, "abcdefghij4", -1, 0, 0);
        dueTried(vault, "abcdefghij4", -1, 1, 1);
        dueTried(vault, "abcdefghij4", -1, -1, 2);
        dueTried(vault, "abcdefghij14", 1, 0, 0);
        dueTried(vault, "abcdefghij24", 0, 1, 1);
        dueTried(vault, "abcdefghij34", 0, 1, 2);
    }

    /** The transaction so far is kept: what is tried is taken back by another transaction. */
    private static void dueTried(RevisionVault vault, String text, int p1, int p2, int base) {
        vault.commit(0);
        vault.begin(0);
        int n = Check.append(vault, 0, text, p1, p2);
        dueBase(text + " on " + p1 + ", " + p2, vault, n, base);
        vault.abort(0);
        vault.begin(0);
    }

    /** "if that chunk is shorter than the snapshot; otherwise it has none", whole and packed. */
    static void termBaseHasAShorterChunk() {
        RevisionVault vault = Check.vaultWith(0, "abcd", "abcde");
        dueBase("5 of 6", vault, 1, 0);
        vault = Check.vaultWith(0, "abc", "abcd");
        dueBase("5 of 5", vault, 1, -1);
        vault = Check.vaultWith(0, "abcde", "abcd");
        dueBase("4 of 5", vault, 1, 0);
        vault = Check.vaultWith(0, "abcd", "abc");
        dueBase("4 of 4", vault, 1, -1);
        vault = Check.vaultWith(0, "aaaaaabbbbbb", "aaaaaabbbbbbb");
        dueBase("5 of 5, packed", vault, 1, -1);
        vault = Check.vaultWith(0, "aaaaaabbbbbbb", "aaaaaabbbbbb");
        dueBase("4 of 5, packed", vault, 1, 0);
    }

    /** "WRITES: the chunk is put behind DATA, then the record behind INDEX." */
    static void termAppendingIsTwoWrites() {
        for (int failing = 1; failing <= 3; failing++) {
            RevisionVault vault = Check.vaultWith(0, "ab");
            vault.begin(0);
            vault.fail(0, failing);
            Check.due("append", Check.append(vault, 0, "cd", 0, -1), failing == 3 ? 1 : -2);
            // A record that is not there is told before DOWN.
            Check.throwsOut("the record", failing == 3 ? REFUSED : NO_SUCH, () -> {
                vault.damage(0, 4, 1);
                return vault.text(0, 1, 0);
            });
        }
    }

    // Transactions and failures ------------------------------------------------------------------

    /** "begins with a WRITE, the JOURNAL .. ends with a WRITE, the journal's removal". */
    static void termTransactionsBeginAndEndWithAWrite() {
        for (int failing = 1; failing <= 5; failing++) {
            RevisionVault vault = new RevisionVault();
            Check.type(vault, "ab");
            vault.fail(0, failing);
            boolean begun = failing > 1;
            boolean appended = failing > 3;
            boolean committed = failing > 4;
            Check.due("begin", vault.begin(0), begun ? 0 : -2);
            if (begun) {
                Check.due("append", vault.append(0, -1, -1), appended ? 0 : -2);
            }
            if (appended) {
                Check.due("commit", vault.commit(0), committed ? 0 : -2);
            }
            if (committed) {
                Check.due("the fifth", vault.begin(0), -2);
            }
            int went = vault.recover(0, 0);
            Check.due("recover", went, appended && !committed ? 1 : 0);
            Check.due("revisions", vault.revisions(0), committed ? 1 : 0);
            Check.throwsOut("no journal is left", BAD_STATE, () -> vault.commit(0));
        }
    }

    /** "the JOURNAL, which has the lengths of both files": those at its beginning. */
    static void termJournalHasBothLengths() {
        RevisionVault vault = new RevisionVault();
        int[] lengths = {0, 3, 8, 9};
        String[] texts = {"ab", "wxyz", ""};
        for (int n = 0; n < 3; n++) {
            vault.begin(0);
            for (int k = n; k < 3; k++) {
                Check.append(vault, 0, texts[k], k - 1, -1);
            }
            Check.due("abort", vault.abort(0), 3 - n);
            Check.due("revisions", vault.revisions(0), n);
            Check.due("data", vault.data(0, -1), lengths[n]);
            vault.begin(0);
            Check.append(vault, 0, texts[n], n - 1, -1);
            vault.commit(0);
        }
        vault.begin(0);
        Check.due("abort", vault.abort(0), 0);
        Check.due("data", vault.data(0, -1), 9);
    }

    /** "DATA is cut .. (a WRITE), INDEX is (a WRITE), the journal is removed (a WRITE)". */
    static void termRollingBackIsThreeWrites() {
        for (int failing = 1; failing <= 4; failing++) {
            RevisionVault vault = Check.vaultWith(0, "ab");
            vault.begin(0);
            Check.append(vault, 0, "cd", 0, -1);
            vault.fail(0, failing);
            Check.due("abort", vault.abort(0), failing == 4 ? 1 : -2);
            // While INDEX is not cut the record is there, and DOWN is what is told.
            Check.throwsOut("the record", failing < 3 ? BAD_STATE : NO_SUCH,
                    () -> vault.text(0, 1, 0));
            if (failing < 4) {
                Check.due("recover", vault.recover(0, 0), failing < 3 ? 1 : 0);
            } else {
                Check.due("the fourth", vault.begin(0), -2);
                Check.due("recover", vault.recover(0, 0), 0);
            }
            Check.due("revisions", vault.revisions(0), 1);
            Check.due("data", vault.data(0, -1), 3);
        }
    }

    /** "comes at the n-th of its WRITES from then on": not before, and not at another's. */
    static void termFailureComesAtItsWrite() {
        for (int n = 1; n <= 100; n++) {
            RevisionVault vault = new RevisionVault();
            vault.begin(0);
            vault.begin(1);
            Check.due("fail", vault.fail(0, n), true);
            vault.commit(1);
            vault.begin(1);
            boolean open = true;
            for (int write = 1; write < n; write++) {
                Check.due("write " + write, open ? vault.commit(0) : vault.begin(0), 0);
                open = !open;
            }
            Check.due("write " + n, open ? vault.commit(0) : vault.begin(0), -2);
            Check.due("the other", vault.commit(1), 0);
        }
    }

    /** "that is not done, nor anything after it, the repository is DOWN". */
    static void termFailureLeavesWhatComesAfterUndone() {
        RevisionVault vault = Check.vaultWith(0, "ab", "cd", "ef");
        for (int failing = 1; failing <= 8; failing++) {
            vault.fail(1, failing);
            Check.due("pull", vault.pull(1), -2);
            Check.due("revisions", vault.revisions(1), -2);
            int whole = Math.max(0, (failing - 2) / 2);
            for (int n = 0; n < 3; n++) {
                int at = n;
                Check.throwsOut("the record", n < whole ? BAD_STATE : NO_SUCH,
                        () -> vault.text(1, at, 0));
            }
            Check.due("recover", vault.recover(1, 0), whole);
        }
        vault.fail(1, 9);
        Check.due("pull", vault.pull(1), 3);
        Check.due("the ninth", vault.begin(1), -2);
    }

    /** "While it is DOWN its files can't be changed or read, but for recover". */
    static void termDownBarsAllButRecover() {
        RevisionVault vault = Check.vaultDown();
        Check.throwsOut("begin", BAD_STATE, () -> vault.begin(0));
        Check.throwsOut("append", BAD_STATE, () -> vault.append(0, -1, -1));
        Check.throwsOut("commit", BAD_STATE, () -> vault.commit(0));
        Check.throwsOut("abort", BAD_STATE, () -> vault.abort(0));
        Check.throwsOut("pull", BAD_STATE, () -> vault.pull(0));
        Check.throwsOut("pull from it", BAD_STATE, () -> vault.pull(1));
        Check.throwsOut("text", BAD_STATE, () -> vault.text(0, 0, 0));
        Check.due("fail", vault.fail(0, 1), false);
        Check.due("damage", vault.damage(0, 0, 1), false);
        Check.due("revisions", vault.revisions(0), -2);
        Check.due("record", vault.record(0, 0, 0), -2);
        Check.due("node", vault.node(0, 0), 0);
        Check.due("data", vault.data(0, 0), -2);
        Check.due("data, -1", vault.data(0, -1), -2);
        Check.due("wrong", vault.wrong(0), -2);
        Check.due("heads", vault.heads(0), -2);
        Check.due("common", vault.common(0, 0, 0), -2);
        Check.due("the buffer is no file", vault.type('a'), true);
        Check.due("the other is UP", vault.revisions(1), 0);
        Check.due("recover", vault.recover(0, 0), 0);
        Check.dueText("text", Check.textOf(vault, 0, 0), "ab");
    }

    /** "no failure is told for it any more": it comes once, though WRITES follow. */
    static void termFailureComesOnce() {
        for (int n = 0; n <= 3; n++) {
            RevisionVault vault = Check.vaultDown();
            Check.due("recover", vault.recover(0, n), n == 0 ? 0 : -2);
            if (n > 0) {
                Check.due("recover again", vault.recover(0, 0), 0);
            }
            for (int k = 0; k < 51; k++) {
                Check.due("begin", vault.begin(0), 0);
                Check.due("commit", vault.commit(0), 0);
            }
        }
    }

    // Pulling ------------------------------------------------------------------------------------

    /** "for each revision .. in order, whose node the other has not": none, some, all. */
    static void termPullingBringsWhatIsNotThere() {
        String[] texts = {"ab", "cd", "ef", "gh"};
        for (int there = 0; there <= 4; there++) {
            RevisionVault vault = Check.vaultWith(0, texts);
            vault.begin(1);
            for (int n = 0; n < there; n++) {
                Check.append(vault, 1, texts[n], n - 1, -1);
            }
            vault.commit(1);
            Check.due("pull", vault.pull(1), 4 - there);
            for (int n = 0; n < 4; n++) {
                Check.due("node", vault.node(1, n), vault.node(0, n));
            }
            Check.due("revisions", vault.revisions(1), 4);
            Check.due("back comes nothing", vault.pull(0), 0);
        }
    }

    /** The same text with another parent has another node, and comes. */
    static void termPullingGoesByTheNode() {
        RevisionVault vault = Check.vaultWith(0, "ab", "ab");
        vault.begin(1);
        Check.append(vault, 1, "ab", -1, -1);
        vault.commit(1);
        Check.due("pull", vault.pull(1), 1);
        Check.due("p1", vault.record(1, 1, 4), 0);
    }

    /** "with the parents there that have the nodes of its own": under other numbers, or none. */
    static void termPullingFindsTheParentsThere() {
        RevisionVault vault = new RevisionVault();
        vault.begin(0);
        Check.append(vault, 0, "a", -1, -1);
        Check.append(vault, 0, "b", -1, -1);
        Check.append(vault, 0, "c", 1, 0);
        Check.append(vault, 0, "d", -1, 2);
        Check.append(vault, 0, "e", 0, -1);
        vault.commit(0);
        vault.begin(1);
        Check.append(vault, 1, "z", -1, -1);
        Check.append(vault, 1, "b", -1, -1);
        vault.commit(1);
        Check.due("pull", vault.pull(1), 4);
        int[][] parents = {{-1, -1}, {-1, -1}, {-1, -1}, {1, 2}, {-1, 3}, {2, -1}};
        for (int n = 0; n < 6; n++) {
            Check.due("p1 of " + n, vault.record(1, n, 4), parents[n][0]);
            Check.due("p2 of " + n, vault.record(1, n, 5), parents[n][1]);
        }
    }

    // Ancestors and heads ------------------------------------------------------------------------

    /** "A revision is an ANCESTOR of itself, of those that have it as a parent .. and so on." */
    static void termAncestors() {
        RevisionVault vault = Check.vaultWith(0, "a", "b", "c");
        vault.begin(0);
        Check.append(vault, 0, "other", -1, -1);
        Check.due("itself", vault.common(0, 2, 2), 2);
        Check.due("its parent", vault.common(0, 2, 1), 1);
        Check.due("its parent's parent", vault.common(0, 0, 2), 0);
        Check.due("not its child", vault.common(0, 1, 2), 1);
        Check.due("none", vault.common(0, 3, 2), -1);
        Check.due("none, changed about", vault.common(0, 0, 3), -1);
    }

    /** "HEADS are revisions that are no revision's parent." */
    static void termHeads() {
        RevisionVault vault = new RevisionVault();
        vault.begin(0);
        for (int n = 0; n < 24; n++) {
            Check.append(vault, 0, Check.LETTERS.substring(n, n + 1), -1, -1);
            Check.due("all", vault.heads(0), n + 1);
        }
        vault.abort(0);
        vault.begin(0);
        for (int n = 0; n < 24; n++) {
            Check.append(vault, 0, Check.LETTERS.substring(n, n + 1), -1, n - 1);
            Check.due("the last alone", vault.heads(0), 1);
        }
    }

    // What is thrown first -----------------------------------------------------------------------

    /** "IndexOutOfBoundsException comes before anything else": whatever else is wrong too. */
    static void termNoSuchComesFirst() {
        RevisionVault vault = Check.vaultDown();
        vault.begin(1);
        for (int r : new int[] {-1, 2}) {
            Check.throwsOut("append", NO_SUCH, () -> vault.append(r, 9, 9));
            Check.throwsOut("recover", NO_SUCH, () -> vault.recover(r, 9));
            Check.throwsOut("recover", NO_SUCH, () -> vault.recover(r, 0));
            Check.throwsOut("pull", NO_SUCH, () -> vault.pull(r));
            Check.throwsOut("text", NO_SUCH, () -> vault.text(r, 0, 0));
            Check.throwsOut("begin", NO_SUCH, () -> vault.begin(r));
            Check.throwsOut("commit", NO_SUCH, () -> vault.commit(r));
            Check.throwsOut("abort", NO_SUCH, () -> vault.abort(r));
        }
        Check.throwsOut("no n, DOWN", NO_SUCH, () -> vault.text(0, 1, 0));
        Check.throwsOut("n, DOWN", BAD_STATE, () -> vault.text(0, 0, 0));
        Check.throwsOut("recover at 4, UP", NO_SUCH, () -> vault.recover(1, 4));
        Check.throwsOut("recover at -1, UP", NO_SUCH, () -> vault.recover(1, -1));
        Check.throwsOut("recover at 3, UP", BAD_STATE, () -> vault.recover(1, 3));
    }

    /** "then what is told for a repository that is DOWN": before parents, room and WRONG texts. */
    static void termDownComesNext() {
        RevisionVault vault = Check.vaultFilled(0, 600);
        vault.damage(0, 1, 1);
        Check.throwsOut("WRONG", REFUSED, () -> vault.text(0, 0, 0));
        Check.throwsOut("no parent", BAD_PARENT, () -> vault.append(0, 20, -1));
        vault.fail(0, 1);
        vault.commit(0);
        Check.throwsOut("WRONG, DOWN", BAD_STATE, () -> vault.text(0, 0, 0));
        Check.throwsOut("no parent, DOWN", BAD_STATE, () -> vault.append(0, 20, -1));
        Check.throwsOut("a WRONG text to come, DOWN", BAD_STATE, () -> vault.pull(1));
        Check.due("no record", vault.record(0, 20, 0), -2);
        Check.due("no field", vault.record(0, 0, 6), -2);
        Check.due("no byte", vault.data(0, 600), -2);
        Check.due("no revisions", vault.common(0, 20, 20), -2);
        Check.due("no node", vault.node(0, 20), 0);
    }

    /** And the rest as promise 5 has it: the journal, the parents, the room. */
    static void termParentsComeBeforeRoom() {
        RevisionVault vault = Check.vaultFilled(0, 600);
        Check.throwsOut("no parent, no room", BAD_PARENT, () -> Check.append(vault, 0, "", 20, -1));
        Check.throwsOut("no room", REFUSED, () -> vault.append(0, 0, -1));
        vault.commit(0);
        Check.throwsOut("no journal, no parent", BAD_STATE, () -> vault.append(0, 20, -1));
    }
}
