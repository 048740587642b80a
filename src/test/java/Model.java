import java.util.ArrayList;
import java.util.HashSet;
import java.util.List;
import java.util.Set;

/**
 * The document told a second time, as plainly as the Java library allows: texts and DATA are
 * Strings, a failing WRITE is an exception, and a call that throws gets a copy of the state back.
 */
final class Model {
    private static final class Failing extends RuntimeException {
        private static final long serialVersionUID = 1L;
    }

    private static final class Rec {
        int offset;
        int size;
        int length;
        int base;
        int p1;
        int p2;
        long node;
    }

    private static final class Repo {
        String data = "";
        List<Rec> index = new ArrayList<>();
        int[] journal = null;
        boolean down = false;
        int fail = 0;

        Repo copy() {
            Repo copy = new Repo();
            copy.data = data;
            copy.index = new ArrayList<>(index);
            copy.journal = journal;
            copy.down = down;
            copy.fail = fail;
            return copy;
        }

        void write() {
            if (fail == 1) {
                fail = 0;
                down = true;
                throw new Failing();
            }
            if (fail > 1) {
                fail--;
            }
        }
    }

    private String buffer = "";
    private final Repo[] repos = {new Repo(), new Repo()};

    boolean type(long eight) {
        StringBuilder coming = new StringBuilder();
        for (int k = 7; k >= 0; k--) {
            int code = (int) ((eight >> (8 * k)) & 0xff);
            if (code == 0) {
                continue;
            }
            if (code != 10 && (code < 32 || code > 126)) {
                return false;
            }
            coming.append((char) code);
        }
        if (buffer.length() + coming.length() > 60) {
            return false;
        }
        buffer += coming;
        return true;
    }

    void wipe() {
        buffer = "";
    }

    private Repo repo(int r) {
        if (r != 0 && r != 1) {
            throw new IndexOutOfBoundsException();
        }
        return repos[r];
    }

    private Repo open(int r) {
        Repo repo = repo(r);
        if (repo.down || repo.journal == null) {
            throw new IllegalStateException();
        }
        return repo;
    }

    int begin(int r) {
        Repo repo = repo(r);
        if (repo.down || repo.journal != null) {
            throw new IllegalStateException();
        }
        try {
            start(repo);
            return 0;
        } catch (Failing e) {
            return -2;
        }
    }

    private static void start(Repo repo) {
        repo.write();
        repo.journal = new int[] {repo.data.length(), repo.index.size()};
    }

    private static void end(Repo repo) {
        repo.write();
        repo.journal = null;
    }

    int append(int r, int p1, int p2) {
        Repo repo = open(r);
        for (int p : new int[] {p1, p2}) {
            if (p < -1 || p >= repo.index.size()) {
                throw new IllegalArgumentException();
            }
        }
        try {
            return put(repo, buffer, p1, p2);
        } catch (Failing e) {
            return -2;
        }
    }

    int commit(int r) {
        Repo repo = open(r);
        try {
            end(repo);
            return 0;
        } catch (Failing e) {
            return -2;
        }
    }

    int abort(int r) {
        return roll(open(r));
    }

    private static int roll(Repo repo) {
        int had = repo.index.size();
        try {
            repo.write();
            repo.data = repo.data.substring(0, repo.journal[0]);
            repo.write();
            repo.index = new ArrayList<>(repo.index.subList(0, repo.journal[1]));
            end(repo);
            return had - repo.index.size();
        } catch (Failing e) {
            return -2;
        }
    }

    boolean fail(int r, int n) {
        if (r < 0 || r > 1 || repos[r].down || n < 0 || n > 100) {
            return false;
        }
        repos[r].fail = n;
        return true;
    }

    int recover(int r, int n) {
        Repo repo = repo(r);
        if (n < 0 || n > 3) {
            throw new IndexOutOfBoundsException();
        }
        if (!repo.down) {
            throw new IllegalStateException();
        }
        repo.down = false;
        if (repo.journal == null) {
            return 0;
        }
        repo.fail = n;
        return roll(repo);
    }

    int pull(int r) {
        Repo into = repo(r);
        Repo from = repo(1 - r);
        for (Repo repo : repos) {
            if (repo.down || repo.journal != null) {
                throw new IllegalStateException();
            }
        }
        Repo before = into.copy();
        int had = into.index.size();
        try {
            start(into);
            for (int n = 0; n < from.index.size(); n++) {
                Rec rec = from.index.get(n);
                if (revisionWith(into, rec.node) >= 0) {
                    continue;
                }
                String text = build(from, n);
                if (text == null) {
                    throw new UnsupportedOperationException();
                }
                int p1 = rec.p1 < 0 ? -1 : revisionWith(into, from.index.get(rec.p1).node);
                int p2 = rec.p2 < 0 ? -1 : revisionWith(into, from.index.get(rec.p2).node);
                put(into, text, p1, p2);
            }
            end(into);
            return into.index.size() - had;
        } catch (Failing e) {
            return -2;
        } catch (UnsupportedOperationException e) {
            repos[r] = before;
            throw e;
        }
    }

    private static int revisionWith(Repo repo, long node) {
        for (int n = 0; n < repo.index.size(); n++) {
            if (repo.index.get(n).node == node) {
                return n;
            }
        }
        return -1;
    }

    static long hash(String text, long one, long other) {
        long h = 1469598103934665603L;
        for (long eight : new long[] {one < other ? one : other, one < other ? other : one}) {
            for (byte part : java.nio.ByteBuffer.allocate(8).putLong(eight).array()) {
                h = (h ^ (part & 0xff)) * 1099511628211L;
            }
        }
        for (char c : text.toCharArray()) {
            h = (h ^ c) * 1099511628211L;
        }
        return h;
    }

    private static long nodeFor(Repo repo, String text, int p1, int p2) {
        return hash(text, p1 < 0 ? 0 : repo.index.get(p1).node,
                p2 < 0 ? 0 : repo.index.get(p2).node);
    }

    private static int put(Repo repo, String text, int p1, int p2) {
        long node = nodeFor(repo, text, p1, p2);
        if (revisionWith(repo, node) >= 0) {
            return revisionWith(repo, node);
        }
        String whole = "u" + text;
        String packed = packed(text);
        String snapshot = packed.length() < whole.length() ? packed : whole;
        String least = null;
        int base = -1;
        for (int candidate : new int[] {p1, p2, repo.index.size() - 1}) {
            String baseText = candidate < 0 ? null : build(repo, candidate);
            if (baseText == null) {
                continue;
            }
            String chunk = difference(baseText, text);
            List<Integer> chain = chain(repo, candidate);
            int bytes = chunk.length();
            for (int n : chain) {
                bytes += repo.index.get(n).size;
            }
            if (chain.size() + 1 > 6 || bytes > 2 * text.length() + 16) {
                continue;
            }
            if (least == null || chunk.length() < least.length()) {
                least = chunk;
                base = candidate;
            }
        }
        if (least == null || least.length() >= snapshot.length()) {
            least = snapshot;
            base = -1;
        }
        if (repo.index.size() == 24 || repo.data.length() + least.length() > 600) {
            throw new UnsupportedOperationException();
        }
        Rec rec = new Rec();
        rec.offset = repo.data.length();
        rec.size = least.length();
        rec.length = text.length();
        rec.base = base;
        rec.p1 = p1;
        rec.p2 = p2;
        rec.node = node;
        repo.write();
        repo.data += least;
        repo.write();
        repo.index.add(rec);
        return repo.index.size() - 1;
    }

    private static List<Integer> chain(Repo repo, int n) {
        List<Integer> chain = new ArrayList<>();
        for (int at = n; at >= 0; at = repo.index.get(at).base) {
            chain.add(at);
        }
        return chain;
    }

    private static String packed(String text) {
        StringBuilder chunk = new StringBuilder("x");
        int from = 0;
        while (from < text.length()) {
            int to = from;
            while (to < text.length() && text.charAt(to) == text.charAt(from)) {
                to++;
            }
            chunk.append((char) (to - from)).append(text.charAt(from));
            from = to;
        }
        return chunk.toString();
    }

    private static String difference(String base, String text) {
        int a = 0;
        while (a < base.length() && a < text.length() && base.charAt(a) == text.charAt(a)) {
            a++;
        }
        String baseRest = base.substring(a);
        String rest = text.substring(a);
        int same = Math.min(baseRest.length(), rest.length());
        while (!baseRest.endsWith(rest.substring(rest.length() - same))) {
            same--;
        }
        String put = rest.substring(0, rest.length() - same);
        return "d" + (char) a + (char) (base.length() - same) + (char) put.length() + put;
    }

    /** The text, or null when it is WRONG. */
    private static String build(Repo repo, int n) {
        String text = raw(repo, n);
        Rec rec = repo.index.get(n);
        if (text == null || text.length() != rec.length
                || nodeFor(repo, text, rec.p1, rec.p2) != rec.node) {
            return null;
        }
        return text;
    }

    private static String raw(Repo repo, int n) {
        Rec rec = repo.index.get(n);
        String chunk = repo.data.substring(rec.offset, rec.offset + rec.size);
        String text;
        if (rec.base >= 0) {
            String base = raw(repo, rec.base);
            text = base == null ? null : patched(base, chunk);
        } else if (chunk.charAt(0) == 'u') {
            text = chunk.substring(1);
        } else {
            text = chunk.charAt(0) == 'x' ? unpacked(chunk.substring(1)) : null;
        }
        return text == null || text.length() > 60 ? null : text;
    }

    private static String patched(String base, String chunk) {
        if (chunk.length() < 4 || chunk.charAt(0) != 'd') {
            return null;
        }
        int a = chunk.charAt(1);
        int b = chunk.charAt(2);
        int n = chunk.charAt(3);
        if (a > b || b > base.length() || n != chunk.length() - 4) {
            return null;
        }
        return base.substring(0, a) + chunk.substring(4) + base.substring(b);
    }

    private static String unpacked(String pairs) {
        if (pairs.length() % 2 != 0) {
            return null;
        }
        StringBuilder text = new StringBuilder();
        for (int k = 0; k < pairs.length(); k += 2) {
            if (pairs.charAt(k) == 0) {
                return null;
            }
            text.append(String.valueOf(pairs.charAt(k + 1)).repeat(pairs.charAt(k)));
        }
        return text.toString();
    }

    int text(int r, int n, int k) {
        Repo repo = repo(r);
        if (n < 0 || n >= repo.index.size()) {
            throw new IndexOutOfBoundsException();
        }
        if (repo.down) {
            throw new IllegalStateException();
        }
        String text = build(repo, n);
        if (text == null) {
            throw new UnsupportedOperationException();
        }
        return k < 0 || k >= text.length() ? 0 : text.charAt(k);
    }

    int revisions(int r) {
        if (r < 0 || r > 1) {
            return -1;
        }
        return repos[r].down ? -2 : repos[r].index.size();
    }

    int record(int r, int n, int field) {
        int revisions = revisions(r);
        if (revisions < 0) {
            return revisions;
        }
        if (n < 0 || n >= revisions || field < 0 || field > 5) {
            return -1;
        }
        Rec rec = repos[r].index.get(n);
        return new int[] {rec.offset, rec.size, rec.length, rec.base, rec.p1, rec.p2}[field];
    }

    long node(int r, int n) {
        return n < 0 || n >= revisions(r) ? 0 : repos[r].index.get(n).node;
    }

    int data(int r, int k) {
        int revisions = revisions(r);
        if (revisions < 0) {
            return revisions;
        }
        String data = repos[r].data;
        if (k == -1) {
            return data.length();
        }
        return k < 0 || k >= data.length() ? -1 : data.charAt(k);
    }

    boolean damage(int r, int k, int x) {
        if (revisions(r) < 0 || k < 0 || k >= repos[r].data.length() || x < 1 || x > 255) {
            return false;
        }
        StringBuilder data = new StringBuilder(repos[r].data);
        data.setCharAt(k, (char) (data.charAt(k) ^ x));
        repos[r].data = data.toString();
        return true;
    }

    int wrong(int r) {
        int count = revisions(r);
        for (int n = revisions(r) - 1; n >= 0; n--) {
            count -= build(repos[r], n) == null ? 0 : 1;
        }
        return count;
    }

    int heads(int r) {
        int revisions = revisions(r);
        if (revisions < 0) {
            return revisions;
        }
        Set<Integer> parents = new HashSet<>();
        for (Rec rec : repos[r].index) {
            parents.add(rec.p1);
            parents.add(rec.p2);
        }
        parents.remove(-1);
        return revisions - parents.size();
    }

    int common(int r, int a, int b) {
        int revisions = revisions(r);
        if (revisions < 0) {
            return revisions;
        }
        if (a < 0 || a >= revisions || b < 0 || b >= revisions) {
            return -1;
        }
        Set<Integer> ofA = new HashSet<>();
        Set<Integer> ofB = new HashSet<>();
        ancestors(repos[r], a, ofA);
        ancestors(repos[r], b, ofB);
        ofA.retainAll(ofB);
        int greatest = -1;
        for (int n : ofA) {
            greatest = Math.max(greatest, n);
        }
        return greatest;
    }

    private static void ancestors(Repo repo, int n, Set<Integer> found) {
        if (n >= 0 && found.add(n)) {
            ancestors(repo, repo.index.get(n).p1, found);
            ancestors(repo, repo.index.get(n).p2, found);
        }
    }

    /** Whether r is DOWN: for choosing calls, not an answer. */
    boolean isDown(int r) {
        return repos[r].down;
    }

    boolean inTransaction(int r) {
        return repos[r].journal != null;
    }

    String buffer() {
        return buffer;
    }
}
