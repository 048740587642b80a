import java.util.ArrayList;
import java.util.List;
import java.util.TreeMap;

/** Long runs of calls, chosen by a fixed rule, on the program and on the model: all alike. */
final class ModelTest {
    private static final int RUNS = 6000;
    private static final int CALLS = 512;
    private static final int SHOWN_CALLS = 40;
    private static final int[] ODD = {Integer.MIN_VALUE, -3, -2, -1, 2, 3, 24, 60, 101, 256, 600,
        Integer.MAX_VALUE};

    private final RevisionVault vault = new RevisionVault();
    private final Model model = new Model();
    private final List<String> told = new ArrayList<>();
    private final List<String> texts = new ArrayList<>();
    private long seed;
    private int calls = 0;
    private boolean alike = true;
    private final int style;
    private static final TreeMap<String, Integer> SEEN = new TreeMap<>();

    private ModelTest(int run) {
        seed = run * 7919L + 17;
        style = run % 4;
    }

    public static void main(String[] args) {
        int bad = 0;
        for (int run = 0; run < RUNS && bad < 3; run++) {
            ModelTest test = new ModelTest(run);
            while (test.calls < CALLS && test.alike) {
                test.step();
            }
            if (!test.alike) {
                bad++;
                System.out.println("run " + run + " differs after " + test.calls + " calls:");
                int from = Math.max(0, test.told.size() - SHOWN_CALLS);
                test.told.subList(from, test.told.size()).forEach(System.out::println);
            }
        }
        System.out.println("ModelTest: " + RUNS + " runs, " + bad + " differ");
        boolean reached = reachedAll();
        System.exit(bad == 0 && reached ? 0 : 1);
    }

    /** Runs that never come to an answer prove nothing of it. */
    private static boolean reachedAll() {
        boolean all = true;
        String[] kinds = {
            "begin 0", "begin -2", "begin throws.IndexOutOfBoundsException",
            "begin throws.IllegalStateException", "append 23", "append -2",
            "append throws.IndexOutOfBoundsException", "append throws.IllegalStateException",
            "append throws.IllegalArgumentException", "append throws.UnsupportedOperationException",
            "commit 0", "commit -2", "commit throws.IndexOutOfBoundsException",
            "commit throws.IllegalStateException", "abort 0", "abort 3", "abort -2",
            "abort throws.IndexOutOfBoundsException", "abort throws.IllegalStateException",
            "recover 0", "recover 3", "recover -2", "recover throws.IndexOutOfBoundsException",
            "recover throws.IllegalStateException", "pull 0", "pull 3", "pull 10", "pull -2",
            "pull throws.IndexOutOfBoundsException", "pull throws.IllegalStateException",
            "pull throws.UnsupportedOperationException", "text throws.IndexOutOfBoundsException",
            "text throws.IllegalStateException", "text throws.UnsupportedOperationException",
            "text 0", "text 97", "wrong 0", "wrong 5", "wrong -1", "wrong -2", "heads 0", "heads 4",
            "heads -1", "heads -2", "common 0", "common 3", "common -1", "common -2",
            "revisions 24", "revisions -1", "revisions -2", "data -1", "data -2", "data 600",
            "record -1", "record -2", "type 0", "type 1", "fail 0", "fail 1", "damage 0", "damage 1",
        };
        for (String kind : kinds) {
            if (!SEEN.containsKey(kind)) {
                all = false;
                System.out.println("no run came to: " + kind);
            }
        }
        return all;
    }

    private int below(int bound) {
        seed = seed * 6364136223846793005L + 1442695040888963407L;
        return (int) ((seed >>> 33) % bound);
    }

    private void both(String name, String call, Check.Call ours, Check.Call due) {
        if (!alike || calls >= CALLS) {
            return;
        }
        calls++;
        String got = Check.outcome(ours);
        String want = Check.outcome(due);
        told.add(call + " answered " + got + (got.equals(want) ? "" : ", due is " + want));
        SEEN.merge(name + " " + want, 1, Integer::sum);
        alike = got.equals(want);
    }

    private int odd(int usual) {
        return below(40) == 0 ? ODD[below(ODD.length)] : usual;
    }

    private int repository() {
        return odd(below(2));
    }

    private int revision(int r) {
        return odd(below(Math.max(1, model.revisions(r)) + (below(12) == 0 ? 1 : 0)));
    }

    private int parent(int r) {
        int revisions = model.revisions(r);
        int choice = below(6);
        if (choice == 0 || revisions <= 0) {
            return odd(-1);
        }
        return choice < 4 ? odd(revisions - 1 - below(Math.min(3, revisions))) : revision(r);
    }

    private void step() {
        int choice = below(100);
        if (choice < 26) {
            writeText();
        } else if (choice < 50) {
            transaction(below(2));
        } else if (choice < 56) {
            pull(repository());
        } else if (choice < 60) {
            failure(repository());
        } else if (choice < 65) {
            recover(repository());
        } else if (choice < 68) {
            damage(repository());
        } else if (choice < 72) {
            begin(repository());
        } else if (choice < 74) {
            commit(repository());
        } else if (choice < 75) {
            abort(repository());
        } else {
            question(repository());
        }
    }

    private void writeText() {
        String text = newText();
        texts.add(text);
        wipe();
        for (int from = 0; from < text.length(); from += 8) {
            type(Check.pack(text.substring(from, Math.min(from + 8, text.length()))));
        }
        if (below(10) == 0) {
            type(oddEight());
        }
        int r = repository();
        if (r >= 0 && r < 2 && !model.isDown(r) && !model.inTransaction(r) && below(6) != 0) {
            begin(r);
        }
        append(r);
    }

    private String newText() {
        if (texts.isEmpty() || below(style == 0 ? 3 : 8) == 0) {
            return fresh(below(style == 1 ? 61 : 25));
        }
        String old = texts.get(texts.size() - 1 - below(Math.min(texts.size(), 4)));
        int from = below(old.length() + 1);
        int to = Math.min(old.length(), from + below(5));
        String changed = old.substring(0, from) + fresh(below(6)) + old.substring(to);
        return changed.substring(0, Math.min(60, changed.length()));
    }

    private String fresh(int length) {
        StringBuilder text = new StringBuilder();
        while (text.length() < length) {
            int run = below(3) == 0 ? 1 + below(style == 2 ? 20 : 5) : 1;
            char c = below(30) == 0 ? (char) 10 : "ab~ cde".charAt(below(7));
            for (int k = 0; k < run && text.length() < length; k++) {
                text.append(c);
            }
        }
        return text.toString();
    }

    private long oddEight() {
        switch (below(4)) {
            case 0:
                return 0;
            case 1:
                return (long) below(256) << (8 * below(8));
            case 2:
                return Check.pack("a") << 32 | Check.pack("b");
            default:
                return seed;
        }
    }

    /** Parents and text are chosen together, so that the same node comes again now and then. */
    private void append(int r) {
        int p1 = parent(r);
        int p2 = parent(r);
        both("append", "append(" + r + ", " + p1 + ", " + p2 + ") of '" + model.buffer() + "'",
                () -> vault.append(r, p1, p2), () -> model.append(r, p1, p2));
        if (below(8) == 0) {
            both("append", "append(" + r + ", " + p2 + ", " + p1 + ") again",
                    () -> vault.append(r, p2, p1), () -> model.append(r, p2, p1));
        }
        if (r >= 0 && r < 2 && !model.isDown(r) && model.inTransaction(r) && below(3) == 0) {
            commit(r);
        }
    }

    private void transaction(int r) {
        if (model.isDown(r)) {
            recover(r);
        } else if (model.inTransaction(r)) {
            if (below(3) == 0 && style != 1) {
                abort(r);
            } else {
                writeText();
                commit(r);
            }
        } else {
            int choice = below(4);
            if (choice == 0) {
                pull(r);
            } else {
                begin(r);
                writeText();
                append(r);
            }
        }
    }

    private void type(long eight) {
        both("type", "type(" + eight + ")", () -> vault.type(eight) ? 1 : 0,
                () -> model.type(eight) ? 1 : 0);
    }

    private void wipe() {
        both("wipe", "wipe()", () -> {
            vault.wipe();
            return 0;
        }, () -> {
            model.wipe();
            return 0;
        });
    }

    private void begin(int r) {
        both("begin", "begin(" + r + ")", () -> vault.begin(r), () -> model.begin(r));
    }

    private void commit(int r) {
        both("commit", "commit(" + r + ")", () -> vault.commit(r), () -> model.commit(r));
    }

    private void abort(int r) {
        both("abort", "abort(" + r + ")", () -> vault.abort(r), () -> model.abort(r));
    }

    private void pull(int r) {
        both("pull", "pull(" + r + ")", () -> vault.pull(r), () -> model.pull(r));
    }

    private void failure(int r) {
        int n = odd(below(5) == 0 ? below(101) : below(9));
        both("fail", "fail(" + r + ", " + n + ")", () -> vault.fail(r, n) ? 1 : 0,
                () -> model.fail(r, n) ? 1 : 0);
    }

    private void recover(int r) {
        int n = odd(below(2) * below(4));
        both("recover", "recover(" + r + ", " + n + ")", () -> vault.recover(r, n),
                () -> model.recover(r, n));
    }

    /** Most damage is taken back soon, or all later texts would be WRONG. */
    private void damage(int r) {
        int bytes = Math.max(1, model.data(r, -1));
        int k = odd(below(3) == 0 ? Math.max(0, model.record(r, revision(r), 0)) + below(4)
                : below(bytes));
        int x = odd(below(3) == 0 ? 'u' ^ 'x' : 1 + below(below(2) == 0 ? 4 : 255));
        damage(r, k, x);
        question(r);
        both("wrong", "wrong(" + r + ")", () -> vault.wrong(r), () -> model.wrong(r));
        if (below(4) != 0) {
            if (below(2) == 0) {
                pull(1 - (r & 1));
            } else {
                append(r);
            }
            damage(r, k, x);
        }
    }

    private void damage(int r, int k, int x) {
        both("damage", "damage(" + r + ", " + k + ", " + x + ")",
                () -> vault.damage(r, k, x) ? 1 : 0, () -> model.damage(r, k, x) ? 1 : 0);
    }

    private void question(int r) {
        int n = revision(r);
        int m = revision(r);
        int k = odd(below(30));
        switch (below(10)) {
            case 0:
                both("revisions", "revisions(" + r + ")", () -> vault.revisions(r),
                        () -> model.revisions(r));
                break;
            case 1:
            case 2:
                int field = odd(below(6));
                both("record", "record(" + r + ", " + n + ", " + field + ")",
                        () -> vault.record(r, n, field), () -> model.record(r, n, field));
                break;
            case 3:
                both("node", "node(" + r + ", " + n + ")", () -> vault.node(r, n),
                        () -> model.node(r, n));
                break;
            case 4:
                int place = odd(below(Math.max(1, model.data(r, -1)) + 1) - 1);
                both("data", "data(" + r + ", " + place + ")", () -> vault.data(r, place),
                        () -> model.data(r, place));
                break;
            case 5:
                both("data", "data(" + r + ", -1)", () -> vault.data(r, -1),
                        () -> model.data(r, -1));
                break;
            case 6:
                both("wrong", "wrong(" + r + ")", () -> vault.wrong(r), () -> model.wrong(r));
                break;
            case 7:
                both("heads", "heads(" + r + ")", () -> vault.heads(r), () -> model.heads(r));
                break;
            case 8:
                both("common", "common(" + r + ", " + n + ", " + m + ")",
                        () -> vault.common(r, n, m), () -> model.common(r, n, m));
                break;
            default:
                both("text", "text(" + r + ", " + n + ", " + k + ")", () -> vault.text(r, n, k),
                        () -> model.text(r, n, k));
                break;
        }
    }
}
