import java.lang.management.ManagementFactory;

/**
 * What the dearest runs make must fit in the room of 600,000 objects and 7.3 million fields and
 * elements: counted in bytes, as the machine tells no more, at 16 for an object and 4 for an
 * element. This program's runs take less than a fortieth of that.
 */
public final class RoomTest {
    private static final long MOST_BYTES = 16L * 600_000 + 4L * 7_300_000;
    private static final int CALLS = 512;

    public static void main(String[] args) {
        Checks checks = new Checks();
        dueInRoom(checks, "one long leaf", 0, 0);
        dueInRoom(checks, "many nodes", 5, 5);
        dueInRoom(checks, "mixed", 0, 5);
        checks.end("RoomTest");
    }

    private static void dueInRoom(Checks checks, String run, int leastLevel, int mostLevel) {
        int[] keys = keysOf(leastLevel, mostLevel);
        com.sun.management.ThreadMXBean threads =
            (com.sun.management.ThreadMXBean) ManagementFactory.getThreadMXBean();
        long before = threads.getThreadAllocatedBytes(Thread.currentThread().getId());
        dearRun(keys);
        long made = threads.getThreadAllocatedBytes(Thread.currentThread().getId()) - before;
        System.out.println(run + ": " + made + " bytes");
        checks.due(run + " keeps to " + MOST_BYTES + " bytes, made " + made, made <= MOST_BYTES ? 1 : 0, 1);
    }

    private static int[] keysOf(int leastLevel, int mostLevel) {
        int[] keys = new int[300];
        int found = 0;
        for (int key = 1; found < keys.length; key++) {
            int level = Model.level(key);
            if (level >= leastLevel && level <= mostLevel) {
                keys[found++] = key;
            }
        }
        return keys;
    }

    /** Grows a table to its most rows, and then has a cell written anew in every call. */
    private static void dearRun(int[] keys) {
        TwinTrees trees = new TwinTrees();
        trees.make(0, 6);
        int calls = 1;
        for (int i = 0; i < keys.length; i++) {
            trees.put(0, keys[i], 0, i, false);
            calls++;
            if (i % 20 == 0) {
                trees.sweep();
                calls++;
            }
        }
        for (int i = 0; calls < CALLS; i++) {
            trees.put(0, keys[i % keys.length], 5, -i, false);
            calls++;
            if (i % 20 == 0) {
                trees.sweep();
                calls++;
            }
        }
    }
}
