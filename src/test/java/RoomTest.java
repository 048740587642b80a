import com.sun.management.ThreadMXBean;
import java.lang.management.ManagementFactory;

/** All calls of a run share one room, so calls that answer make no objects. */
final class RoomTest {
    private static final int CALLS = 500;
    // What the machine itself may make while it measures.
    private static final long SLACK = 4096;
    private static final String[] TEXTS = {"abcdefghijklmnop", "abcdefghijklmnopq",
        "abcdefghijkLmnopq", "zzzzzzzzzzzzzzzzzzzz", "abcdefghijkLmnop"};

    public static void main(String[] args) {
        Check.runAll(RoomTest.class, "room");
    }

    private interface Calls {
        void make(RevisionVault vault);
    }

    private static void dueNoObjects(String what, Calls calls) {
        RevisionVault vault = Check.vaultWith(0, TEXTS);
        calls.make(vault);
        ThreadMXBean meter = (ThreadMXBean) ManagementFactory.getThreadMXBean();
        long self = Thread.currentThread().getId();
        meter.getThreadAllocatedBytes(self);
        long before = meter.getThreadAllocatedBytes(self);
        for (int k = 0; k < CALLS; k++) {
            calls.make(vault);
        }
        long made = meter.getThreadAllocatedBytes(self) - before;
        Check.due(what + " made " + made + " bytes, few enough", made <= SLACK, true);
    }

    /** Some 80 objects and 2,300 numbers: a run may make a few hundred vaults. */
    static void roomForANewVault() {
        ThreadMXBean meter = (ThreadMXBean) ManagementFactory.getThreadMXBean();
        long self = Thread.currentThread().getId();
        RevisionVault kept = new RevisionVault();
        long before = meter.getThreadAllocatedBytes(self);
        for (int k = 0; k < CALLS; k++) {
            kept = new RevisionVault();
        }
        long made = (meter.getThreadAllocatedBytes(self) - before) / CALLS;
        Check.due("revisions", kept.revisions(0), 0);
        Check.due("a vault made " + made + " bytes, few enough", made <= 16384, true);
    }

    static void roomForQuestions() {
        dueNoObjects("questions", vault -> {
            vault.wrong(0);
            vault.heads(0);
            vault.common(0, 4, 2);
            vault.text(0, 4, 3);
            vault.record(0, 4, 3);
            vault.node(0, 4);
            vault.data(0, 7);
        });
    }

    static void roomForAppending() {
        dueNoObjects("append", vault -> {
            vault.wipe();
            vault.type(0x6162636465666768L);
            vault.begin(0);
            vault.append(0, 3, 2);
            vault.append(0, 5, 1);
            vault.abort(0);
        });
    }

    static void roomForPulling() {
        dueNoObjects("pull", vault -> {
            vault.fail(1, 12);
            vault.pull(1);
            vault.recover(1, 0);
        });
    }
}
