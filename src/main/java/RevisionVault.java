import java.util.Arrays;

/**
 * Two repositories of revisions, with a buffer in which texts are typed. The document's words in
 * capitals (WRITE, DOWN, WRONG, BASE ..) have its meanings here.
 *
 * <p>Every row is made once, in the constructors; no call makes an object but for what it throws.
 */
public final class RevisionVault {
    private static final int REPOSITORIES = 2;
    private static final int TEXT_LIMIT = 60;
    private static final int RECORD_LIMIT = 24;
    private static final int DATA_LIMIT = 600;
    private static final int CHAIN_LIMIT = 6;
    private static final int CHAIN_BYTES_A_CHARACTER = 2;
    private static final int CHAIN_BYTES_BESIDE = 16;
    private static final int CANDIDATES = 3;
    private static final int FAILURE_LIMIT = 100;
    private static final int ROLLBACK_WRITES = 3;
    // The longest chunk that is tried: a packed text in which no two neighbours are alike.
    private static final int CHUNK_LIMIT = 1 + 2 * TEXT_LIMIT;
    private static final int DIFFERENCE_HEAD = 4;

    private static final int BYTE_MASK = 255;
    private static final int TOP_SHIFT = 56;
    private static final int BYTE_BITS = 8;

    private static final int NEWLINE = 10;
    private static final int FIRST_PRINTED = 32;
    private static final int LAST_PRINTED = 126;

    private static final int MARK_WHOLE = 'u';
    private static final int MARK_PACKED = 'x';
    private static final int MARK_DIFFERENCE = 'd';

    private static final long NODE_START = 1469598103934665603L;
    private static final long NODE_FACTOR = 1099511628211L;

    private static final int NONE = -1;
    private static final int DOWN = -2;
    // Never an answer of the face: the caller throws UnsupportedOperationException for it.
    private static final int REFUSED = -3;
    private static final int READABLE = 0;

    private final Row buffer;
    private final Repository[] repositories;

    public RevisionVault() {
        buffer = new Row(TEXT_LIMIT);
        repositories = new Repository[REPOSITORIES];
        for (int r = 0; r < REPOSITORIES; r++) {
            repositories[r] = new Repository();
        }
    }

    public boolean type(long eight) {
        int coming = 0;
        for (int shift = TOP_SHIFT; shift >= 0; shift -= BYTE_BITS) {
            int code = byteAt(eight, shift);
            if (code != 0) {
                if (!isCharacter(code)) {
                    return false;
                }
                coming++;
            }
        }
        if (coming > TEXT_LIMIT - buffer.length) {
            return false;
        }
        for (int shift = TOP_SHIFT; shift >= 0; shift -= BYTE_BITS) {
            int code = byteAt(eight, shift);
            if (code != 0) {
                buffer.add(code);
            }
        }
        return true;
    }

    public void wipe() {
        buffer.cut(0);
    }

    public int begin(int r) throws IndexOutOfBoundsException, IllegalStateException {
        Repository repository = repositoryAt(r);
        if (repository.down || repository.journal) {
            throw new IllegalStateException();
        }
        return repository.openJournal() ? 0 : DOWN;
    }

    public int append(int r, int p1, int p2)
            throws IndexOutOfBoundsException, IllegalStateException, IllegalArgumentException,
            UnsupportedOperationException {
        Repository repository = repositoryInTransaction(r);
        if (!repository.canBeParent(p1) || !repository.canBeParent(p2)) {
            throw new IllegalArgumentException();
        }
        int answer = repository.store(buffer, p1, p2);
        if (answer == REFUSED) {
            throw new UnsupportedOperationException();
        }
        return answer;
    }

    public int commit(int r) throws IndexOutOfBoundsException, IllegalStateException {
        return repositoryInTransaction(r).removeJournal() ? 0 : DOWN;
    }

    public int abort(int r) throws IndexOutOfBoundsException, IllegalStateException {
        return repositoryInTransaction(r).rollBack();
    }

    public boolean fail(int r, int n) {
        if (barTo(r) != READABLE || n < 0 || n > FAILURE_LIMIT) {
            return false;
        }
        repositories[r].writesToFailure = n;
        return true;
    }

    public int recover(int r, int n) throws IndexOutOfBoundsException, IllegalStateException {
        Repository repository = repositoryAt(r);
        if (n < 0 || n > ROLLBACK_WRITES) {
            throw new IndexOutOfBoundsException();
        }
        if (!repository.down) {
            throw new IllegalStateException();
        }
        return repository.comeUp(n);
    }

    public int pull(int r)
            throws IndexOutOfBoundsException, IllegalStateException,
            UnsupportedOperationException {
        Repository into = repositoryAt(r);
        Repository from = repositoryAt(REPOSITORIES - 1 - r);
        if (into.down || into.journal || from.down || from.journal) {
            throw new IllegalStateException();
        }
        int came = into.takeFrom(from);
        if (came == REFUSED) {
            throw new UnsupportedOperationException();
        }
        return came;
    }

    public int text(int r, int n, int k)
            throws IndexOutOfBoundsException, IllegalStateException,
            UnsupportedOperationException {
        Repository repository = repositoryAt(r);
        if (!repository.hasRevision(n)) {
            throw new IndexOutOfBoundsException();
        }
        if (repository.down) {
            throw new IllegalStateException();
        }
        if (!repository.build(n)) {
            throw new UnsupportedOperationException();
        }
        return repository.built.at(k);
    }

    public int revisions(int r) {
        int bar = barTo(r);
        return bar != READABLE ? bar : repositories[r].recordCount;
    }

    public int record(int r, int n, int field) {
        int bar = barTo(r);
        if (bar != READABLE) {
            return bar;
        }
        return repositories[r].hasRevision(n) ? repositories[r].records[n].field(field) : NONE;
    }

    public long node(int r, int n) {
        if (barTo(r) != READABLE || !repositories[r].hasRevision(n)) {
            return 0;
        }
        return repositories[r].records[n].node;
    }

    public int data(int r, int k) {
        int bar = barTo(r);
        if (bar != READABLE) {
            return bar;
        }
        Row bytes = repositories[r].data;
        if (k == -1) {
            return bytes.length;
        }
        return bytes.has(k) ? bytes.at(k) : NONE;
    }

    public boolean damage(int r, int k, int x) {
        if (barTo(r) != READABLE || x < 1 || x > BYTE_MASK || !repositories[r].data.has(k)) {
            return false;
        }
        repositories[r].data.flip(k, x);
        return true;
    }

    public int wrong(int r) {
        int bar = barTo(r);
        return bar != READABLE ? bar : repositories[r].countWrong();
    }

    public int heads(int r) {
        int bar = barTo(r);
        return bar != READABLE ? bar : repositories[r].countHeads();
    }

    public int common(int r, int a, int b) {
        int bar = barTo(r);
        if (bar != READABLE) {
            return bar;
        }
        Repository repository = repositories[r];
        if (!repository.hasRevision(a) || !repository.hasRevision(b)) {
            return NONE;
        }
        return repository.greatestCommonAncestor(a, b);
    }

    private static int byteAt(long eight, int shift) {
        return (int) (eight >>> shift) & BYTE_MASK;
    }

    private static boolean isCharacter(int code) {
        return code == NEWLINE || code >= FIRST_PRINTED && code <= LAST_PRINTED;
    }

    private static boolean isRepository(int r) {
        return r >= 0 && r < REPOSITORIES;
    }

    /** READABLE, or what a question about r answers when it can't be asked. */
    private int barTo(int r) {
        if (!isRepository(r)) {
            return NONE;
        }
        return repositories[r].down ? DOWN : READABLE;
    }

    private Repository repositoryAt(int r) {
        if (!isRepository(r)) {
            throw new IndexOutOfBoundsException();
        }
        return repositories[r];
    }

    private Repository repositoryInTransaction(int r) {
        Repository repository = repositoryAt(r);
        if (repository.down || !repository.journal) {
            throw new IllegalStateException();
        }
        return repository;
    }

    /** Up to a fixed number of codes: a text, a chunk, or the DATA file. */
    private static final class Row {
        private final int[] codes;
        private int length;

        Row(int limit) {
            codes = new int[limit];
            length = 0;
        }

        boolean has(int k) {
            return k >= 0 && k < length;
        }

        int at(int k) {
            return has(k) ? codes[k] : 0;
        }

        boolean hasRoomFor(int count) {
            return count >= 0 && count <= codes.length - length;
        }

        void cut(int newLength) {
            if (newLength >= 0 && newLength < length) {
                length = newLength;
            }
        }

        void flip(int k, int x) {
            if (has(k)) {
                codes[k] ^= x;
            }
        }

        boolean add(int code) {
            if (!hasRoomFor(1)) {
                return false;
            }
            codes[length] = code;
            length++;
            return true;
        }

        boolean addRun(int code, int count) {
            if (!hasRoomFor(count)) {
                return false;
            }
            Arrays.fill(codes, length, length + count, code);
            length += count;
            return true;
        }

        boolean addPart(Row source, int from, int count) {
            if (!hasRoomFor(count) || from < 0 || count > source.length - from) {
                return false;
            }
            System.arraycopy(source.codes, from, codes, length, count);
            length += count;
            return true;
        }

        /** Puts a part of another row in the place of the codes begin .. end - 1. */
        boolean replace(int begin, int end, Row source, int from, int count) {
            if (begin < 0 || begin > end || end > length) {
                return false;
            }
            if (from < 0 || count < 0 || count > source.length - from) {
                return false;
            }
            int newLength = length - (end - begin) + count;
            if (newLength > codes.length) {
                return false;
            }
            System.arraycopy(codes, end, codes, begin + count, length - end);
            System.arraycopy(source.codes, from, codes, begin, count);
            length = newLength;
            return true;
        }

        void become(Row other) {
            length = 0;
            addPart(other, 0, other.length);
        }
    }

    /** How texts become chunks, and chunks texts. */
    private static final class Coding {
        static void writeWhole(Row text, Row chunk) {
            chunk.cut(0);
            chunk.add(MARK_WHOLE);
            chunk.addPart(text, 0, text.length);
        }

        static void writePacked(Row text, Row chunk) {
            chunk.cut(0);
            chunk.add(MARK_PACKED);
            int run = 0;
            for (int k = 0; k < text.length; k++) {
                run++;
                if (k + 1 == text.length || text.at(k + 1) != text.at(k)) {
                    chunk.add(run);
                    chunk.add(text.at(k));
                    run = 0;
                }
            }
        }

        static void writeDifference(Row base, Row text, Row chunk) {
            int begin = commonBeginning(base, text);
            int alike = commonEnd(base, text, begin);
            int count = text.length - alike - begin;
            chunk.cut(0);
            chunk.add(MARK_DIFFERENCE);
            chunk.add(begin);
            chunk.add(base.length - alike);
            chunk.add(count);
            chunk.addPart(text, begin, count);
        }

        private static int commonBeginning(Row one, Row other) {
            int limit = Math.min(one.length, other.length);
            int k = 0;
            while (k < limit && one.at(k) == other.at(k)) {
                k++;
            }
            return k;
        }

        private static int commonEnd(Row one, Row other, int begin) {
            int limit = Math.min(one.length, other.length) - begin;
            int k = 0;
            while (k < limit && one.at(one.length - 1 - k) == other.at(other.length - 1 - k)) {
                k++;
            }
            return k;
        }

        /** Adds what a chunk without a BASE says to an empty text; false when it is WRONG. */
        static boolean readSnapshot(Row data, int offset, int size, Row text) {
            int mark = data.at(offset);
            if (mark == MARK_WHOLE) {
                return text.addPart(data, offset + 1, size - 1);
            }
            if (mark != MARK_PACKED || size % 2 == 0) {
                return false;
            }
            for (int k = offset + 1; k < offset + size; k += 2) {
                int run = data.at(k);
                if (run == 0 || !text.addRun(data.at(k + 1), run)) {
                    return false;
                }
            }
            return true;
        }

        /** Changes the BASE's text as a chunk says; false when it is WRONG. */
        static boolean readDifference(Row data, int offset, int size, Row text) {
            if (size < DIFFERENCE_HEAD || data.at(offset) != MARK_DIFFERENCE) {
                return false;
            }
            int begin = data.at(offset + 1);
            int end = data.at(offset + 2);
            int count = data.at(offset + 3);
            if (count != size - DIFFERENCE_HEAD) {
                return false;
            }
            return text.replace(begin, end, data, offset + DIFFERENCE_HEAD, count);
        }
    }

    /** A record of an INDEX. */
    private static final class IndexRecord {
        private int offset;
        private int size;
        private int length;
        private int base;
        private int p1;
        private int p2;
        private long node;

        void placeChunk(int newOffset, int newSize, int newBase) {
            offset = newOffset;
            size = newSize;
            base = newBase;
        }

        void describe(int newLength, int newP1, int newP2, long newNode) {
            length = newLength;
            p1 = newP1;
            p2 = newP2;
            node = newNode;
        }

        int field(int number) {
            switch (number) {
                case 0:
                    return offset;
                case 1:
                    return size;
                case 2:
                    return length;
                case 3:
                    return base;
                case 4:
                    return p1;
                case 5:
                    return p2;
                default:
                    return NONE;
            }
        }
    }

    private static final class Repository {
        private final Row data;
        private final IndexRecord[] records;
        private int recordCount;
        private boolean journal;
        private int journalData;
        private int journalRecords;
        private boolean down;
        // 0 when no failure is told.
        private int writesToFailure;
        // What build answers.
        private final Row built;
        private final int[] chain;
        // What chooseChunk answers, and the chunk that it compares with that.
        private final Row chunk;
        private final Row trial;

        Repository() {
            data = new Row(DATA_LIMIT);
            records = new IndexRecord[RECORD_LIMIT];
            for (int n = 0; n < RECORD_LIMIT; n++) {
                records[n] = new IndexRecord();
            }
            recordCount = 0;
            journal = false;
            down = false;
            writesToFailure = 0;
            built = new Row(TEXT_LIMIT);
            chain = new int[CHAIN_LIMIT];
            chunk = new Row(CHUNK_LIMIT);
            trial = new Row(CHUNK_LIMIT);
        }

        boolean hasRevision(int n) {
            return n >= 0 && n < recordCount;
        }

        boolean canBeParent(int p) {
            return p == NONE || hasRevision(p);
        }

        /** Counts a WRITE; false when it is the one that fails and must not be done. */
        private boolean mayWrite() {
            if (writesToFailure > 0) {
                writesToFailure--;
                down = writesToFailure == 0;
            }
            return !down;
        }

        boolean openJournal() {
            if (!mayWrite()) {
                return false;
            }
            journal = true;
            journalData = data.length;
            journalRecords = recordCount;
            return true;
        }

        boolean removeJournal() {
            if (!mayWrite()) {
                return false;
            }
            journal = false;
            return true;
        }

        /** Answers how many revisions went, or DOWN. */
        int rollBack() {
            int before = recordCount;
            if (!mayWrite()) {
                return DOWN;
            }
            data.cut(journalData);
            if (!mayWrite()) {
                return DOWN;
            }
            recordCount = journalRecords;
            return removeJournal() ? before - recordCount : DOWN;
        }

        /** The failure is told only when WRITES follow, so that it can't outlive this call. */
        int comeUp(int failingWrite) {
            down = false;
            if (!journal) {
                return 0;
            }
            writesToFailure = failingWrite;
            return rollBack();
        }

        /** Answers how many revisions came, DOWN, or REFUSED with nothing changed. */
        int takeFrom(Repository other) {
            int toldFailure = writesToFailure;
            if (!openJournal()) {
                return DOWN;
            }
            for (int n = 0; n < other.recordCount; n++) {
                IndexRecord wanted = other.records[n];
                if (find(wanted.node) == NONE) {
                    int answer = REFUSED;
                    if (other.build(n)) {
                        answer = store(other.built, twinOf(other, wanted.p1),
                                twinOf(other, wanted.p2));
                    }
                    if (answer == DOWN) {
                        return DOWN;
                    }
                    if (answer == REFUSED) {
                        undo(toldFailure);
                        return REFUSED;
                    }
                }
            }
            int came = recordCount - journalRecords;
            return removeJournal() ? came : DOWN;
        }

        /** The revision here that has the node of a parent there. */
        private int twinOf(Repository other, int parent) {
            return parent == NONE ? NONE : find(other.records[parent].node);
        }

        /** Not a roll back: no WRITE happens, and those done are not counted for the failure. */
        private void undo(int toldFailure) {
            data.cut(journalData);
            recordCount = journalRecords;
            journal = false;
            writesToFailure = toldFailure;
        }

        /** Answers the revision of the text, DOWN, or REFUSED when there is no room. */
        int store(Row text, int p1, int p2) {
            long node = nodeOf(text, p1, p2);
            int known = find(node);
            if (known != NONE) {
                return known;
            }
            int base = chooseChunk(text, p1, p2);
            if (recordCount >= RECORD_LIMIT || !data.hasRoomFor(chunk.length)) {
                return REFUSED;
            }
            int offset = data.length;
            if (!mayWrite()) {
                return DOWN;
            }
            data.addPart(chunk, 0, chunk.length);
            if (!mayWrite()) {
                return DOWN;
            }
            records[recordCount].placeChunk(offset, chunk.length, base);
            records[recordCount].describe(text.length, p1, p2, node);
            recordCount++;
            return recordCount - 1;
        }

        private int find(long node) {
            for (int n = 0; n < recordCount; n++) {
                if (records[n].node == node) {
                    return n;
                }
            }
            return NONE;
        }

        private long nodeOrZero(int n) {
            return n == NONE ? 0 : records[n].node;
        }

        private long nodeOf(Row text, int p1, int p2) {
            long one = nodeOrZero(p1);
            long other = nodeOrZero(p2);
            long h = mixLong(NODE_START, Math.min(one, other));
            h = mixLong(h, Math.max(one, other));
            for (int k = 0; k < text.length; k++) {
                h = (h ^ text.at(k)) * NODE_FACTOR;
            }
            return h;
        }

        private static long mixLong(long start, long eight) {
            long h = start;
            for (int shift = TOP_SHIFT; shift >= 0; shift -= BYTE_BITS) {
                h = (h ^ byteAt(eight, shift)) * NODE_FACTOR;
            }
            return h;
        }

        /** Puts the chunk for a new revision into chunk; answers its BASE. */
        private int chooseChunk(Row text, int p1, int p2) {
            Coding.writeWhole(text, chunk);
            Coding.writePacked(text, trial);
            if (trial.length < chunk.length) {
                chunk.become(trial);
            }
            int base = NONE;
            for (int turn = 0; turn < CANDIDATES; turn++) {
                int candidate = turn == 0 ? p1 : turn == 1 ? p2 : recordCount - 1;
                if (candidate != NONE && build(candidate)) {
                    Coding.writeDifference(built, text, trial);
                    if (trial.length < chunk.length && chainFits(candidate, text.length)) {
                        chunk.become(trial);
                        base = candidate;
                    }
                }
            }
            return base;
        }

        /** Whether a revision with the chunk in trial may have this BASE. */
        private boolean chainFits(int base, int textLength) {
            int links = 1;
            int bytes = trial.length;
            int at = base;
            while (at != NONE && links < CHAIN_LIMIT) {
                links++;
                bytes += records[at].size;
                at = records[at].base;
            }
            return at == NONE
                    && bytes <= CHAIN_BYTES_A_CHARACTER * textLength + CHAIN_BYTES_BESIDE;
        }

        /** Puts the text of a revision into built; false when it is WRONG. */
        boolean build(int n) {
            int depth = 0;
            int at = n;
            while (at != NONE && depth < CHAIN_LIMIT) {
                chain[depth] = at;
                depth++;
                at = records[at].base;
            }
            built.cut(0);
            for (int k = depth - 1; k >= 0; k--) {
                IndexRecord step = records[chain[k]];
                boolean right = step.base == NONE
                        ? Coding.readSnapshot(data, step.offset, step.size, built)
                        : Coding.readDifference(data, step.offset, step.size, built);
                if (!right) {
                    return false;
                }
            }
            IndexRecord last = records[n];
            return built.length == last.length
                    && nodeOf(built, last.p1, last.p2) == last.node;
        }

        int countWrong() {
            int count = 0;
            for (int n = 0; n < recordCount; n++) {
                if (!build(n)) {
                    count++;
                }
            }
            return count;
        }

        int countHeads() {
            int parents = 0;
            for (int n = 0; n < recordCount; n++) {
                parents |= parentsOf(n);
            }
            return recordCount - Integer.bitCount(parents);
        }

        int greatestCommonAncestor(int a, int b) {
            int both = ancestorsOf(a) & ancestorsOf(b);
            for (int n = Math.min(a, b); n >= 0; n--) {
                if ((both >> n & 1) != 0) {
                    return n;
                }
            }
            return NONE;
        }

        /** The ancestors as bits: a parent has a lesser number, so one way down finds all. */
        private int ancestorsOf(int n) {
            int ancestors = 1 << n;
            for (int k = n; k >= 0; k--) {
                if ((ancestors >> k & 1) != 0) {
                    ancestors |= parentsOf(k);
                }
            }
            return ancestors;
        }

        private int parentsOf(int n) {
            IndexRecord child = records[n];
            int one = child.p1 == NONE ? 0 : 1 << child.p1;
            int other = child.p2 == NONE ? 0 : 1 << child.p2;
            return one | other;
        }
    }
}
