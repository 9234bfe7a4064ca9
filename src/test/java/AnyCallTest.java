import java.util.Random;

/**
 * No call throws or hangs, whatever its arguments, and some way beyond the 512th neither: what
 * calls answer there is free, but answer they must.
 */
public final class AnyCallTest {
    private static final int RUNS = 300;
    private static final int CALLS = 512;
    private static final int CALLS_BEYOND = 1500;
    private static final int[] EDGES = {
        Integer.MIN_VALUE, Integer.MIN_VALUE + 1, -2, -1, 0, 1, 2, 3, 4, 5, 6, 7, 299, 300, 301, 599, 600,
        Integer.MAX_VALUE - 1, Integer.MAX_VALUE};

    public static void main(String[] args) {
        Checks checks = new Checks();
        for (int seed = 0; seed < RUNS; seed++) {
            int calls = seed % 50 == 0 ? CALLS_BEYOND : CALLS;
            checks.due("run " + seed, new AnyCallTest(seed).answered(calls, seed % 2 == 0), calls);
        }
        checks.end("AnyCallTest");
    }

    private final Random random;
    private final TwinTrees trees = new TwinTrees();

    private AnyCallTest(long seed) {
        random = new Random(seed);
    }

    private int answered(int calls, boolean sweeps) {
        for (int call = 0; call < calls; call++) {
            try {
                anyCall(sweeps);
            } catch (RuntimeException thrown) {
                System.out.println("call " + call + " threw " + thrown);
                return call;
            }
        }
        return calls;
    }

    private void anyCall(boolean sweeps) {
        switch (random.nextInt(sweeps ? 160 : 150)) {
            case 0 -> trees.make(any(), any());
            case 1, 2, 3, 4 -> trees.copy(any(), any());
            case 5, 6, 7, 8 -> trees.remove(any(), any());
            case 9, 10 -> trees.measure(any(), any());
            case 11, 12 -> trees.address(any());
            case 13, 14 -> trees.row(any(), any());
            case 15, 16 -> trees.compare(any(), any());
            case 17, 18 -> trees.difference(any(), any());
            case 19, 20 -> trees.count(any());
            case 21, 22 -> trees.get(any(), any(), any());
            case 23, 24 -> trees.put(any(), any(), any(), any(), random.nextBoolean());
            case 150 -> trees.sweep();
            default -> trees.put(random.nextInt(6), random.nextInt(2000), 0, any(), random.nextBoolean());
        }
    }

    private int any() {
        return random.nextInt(9) == 0 ? random.nextInt() : EDGES[random.nextInt(EDGES.length)];
    }
}
