import java.util.ArrayList;
import java.util.List;
import java.util.Random;

/** Long mixed runs, every answer of which is held against the model's. */
public final class ModelTest {
    private static final int CALLS = 512;
    private static final int[] VALUES = {0, 1, -1, 2, Integer.MAX_VALUE, Integer.MIN_VALUE};

    private final Random random;
    private final Checks checks;
    private final String run;
    private final TwinTrees trees = new TwinTrees();
    private final Model model = new Model();
    private final int[] keys;
    private final int liveTables;
    private int calls = 0;

    private ModelTest(Checks checks, long seed, String kind, int[] keys, int liveTables) {
        this.random = new Random(seed);
        this.checks = checks;
        this.run = kind + " " + seed;
        this.keys = keys;
        this.liveTables = liveTables;
    }

    public static void main(String[] args) {
        Checks checks = new Checks();
        for (int seed = 0; seed < 25; seed++) {
            new ModelTest(checks, seed, "few keys", keysOf(0, 12, -6), 6).mixedRun(8);
            new ModelTest(checks, seed, "low keys", keysOf(0, 60, -90), 3).mixedRun(10);
            new ModelTest(checks, seed, "high keys", keysOf(3, 60, -9000), 2).mixedRun(14);
            new ModelTest(checks, seed, "far keys", farKeys(seed), 3).mixedRun(14);
        }
        for (int seed = 0; seed < 3; seed++) {
            new ModelTest(checks, seed, "filling", flatKeys(330), 2).fillingRun(1);
            new ModelTest(checks, seed, "filling wide", flatKeys(330), 2).fillingRun(6);
            new ModelTest(checks, seed, "many rows", farKeys(seed + 100), 1).fillingRun(1);
            new ModelTest(checks, seed, "top keys", keysOf(5, 330, -100000), 1).fillingRun(2);
        }
        checks.end("ModelTest");
    }

    private static int[] keysOf(int leastLevel, int many, int first) {
        int[] keys = new int[many];
        int found = 0;
        for (int key = first; found < many; key++) {
            if (Model.level(key) >= leastLevel) {
                keys[found++] = key;
            }
        }
        return keys;
    }

    /** Keys that never end a node, so that leaves grow large. */
    private static int[] flatKeys(int many) {
        List<Integer> keys = new ArrayList<>();
        for (int key = -200; keys.size() < many; key++) {
            if (Model.level(key) == 0) {
                keys.add(key);
            }
        }
        return keys.stream().mapToInt(Integer::intValue).toArray();
    }

    private static int[] farKeys(long seed) {
        Random random = new Random(~seed);
        int[] keys = random.ints(400).toArray();
        keys[0] = 0;
        keys[1] = Integer.MIN_VALUE;
        keys[2] = Integer.MAX_VALUE;
        return keys;
    }

    private void mixedRun(int changesOfTwenty) {
        for (int table = 0; table < liveTables; table++) {
            make(table, 1 + random.nextInt(3));
        }
        while (calls < CALLS) {
            if (random.nextInt(20) < changesOfTwenty) {
                change();
            } else {
                ask();
            }
        }
    }

    private void fillingRun(int columns) {
        for (int table = 0; table < liveTables; table++) {
            make(table, columns);
        }
        for (int i = 0; calls < CALLS - 60 && i < keys.length; i++) {
            put(random.nextInt(liveTables), keys[i], random.nextInt(columns), i, random.nextInt(8) == 0);
            if (random.nextInt(12) == 0) {
                ask();
            }
            if (random.nextInt(40) == 0) {
                remove(random.nextInt(liveTables), key());
            }
        }
        while (calls < CALLS) {
            if (random.nextBoolean()) {
                change();
            } else {
                ask();
            }
        }
    }

    private void change() {
        int table = table();
        switch (random.nextInt(24)) {
            case 0 -> make(table, random.nextInt(8) == 0 ? random.nextInt(9) - 1 : 1 + random.nextInt(3));
            case 1, 2 -> copy(table, table());
            case 3 -> due("sweep()", trees.sweep(), model.sweep());
            case 4, 5, 6, 7, 8, 9 -> remove(table, key());
            default -> put(table, key(), column(), VALUES[random.nextInt(VALUES.length)], random.nextInt(4) == 0);
        }
    }

    private void ask() {
        int table = table();
        int other = table();
        int k = random.nextInt(8) - 1;
        int what = random.nextInt(5) - (random.nextInt(8) == 0 ? 1 : 0);
        switch (random.nextInt(9)) {
            case 0, 1 -> {
                int key = key();
                int column = column();
                due("get(" + table + ", " + key + ", " + column + ")",
                    trees.get(table, key, column), model.get(table, key, column));
            }
            case 2 -> due("measure(" + table + ", " + what + ")", trees.measure(table, what), model.measure(table, what));
            case 3 -> due("address(" + table + ")", trees.address(table), model.address(table));
            case 4 -> {
                int place = random.nextInt(3) == 0 ? k : random.nextInt(310);
                due("row(" + table + ", " + place + ")", trees.row(table, place), model.row(table, place));
            }
            case 5 -> due("compare(" + table + ", " + other + ")", trees.compare(table, other), model.compare(table, other));
            case 6, 7 -> due("difference(" + k + ", " + what + ")", trees.difference(k, what), model.difference(k, what));
            default -> due("count(" + what + ")", trees.count(what), model.count(what));
        }
    }

    private void make(int table, int columns) {
        due("make(" + table + ", " + columns + ")", trees.make(table, columns), model.make(table, columns));
    }

    private void copy(int table, int from) {
        due("copy(" + table + ", " + from + ")", trees.copy(table, from), model.copy(table, from));
    }

    private void remove(int table, int key) {
        due("remove(" + table + ", " + key + ")", trees.remove(table, key), model.remove(table, key));
    }

    private void put(int table, int key, int column, int value, boolean none) {
        due("put(" + table + ", " + key + ", " + column + ", " + value + ", " + none + ")",
            trees.put(table, key, column, value, none), model.put(table, key, column, value, none));
    }

    private void due(String call, long got, long want) {
        calls++;
        if (calls <= CALLS) {
            checks.due(run + ", call " + calls + ": " + call, got, want);
        }
    }

    private int table() {
        return random.nextInt(25) == 0 ? random.nextInt(9) - 1 : random.nextInt(liveTables);
    }

    private int column() {
        return random.nextInt(15) == 0 ? random.nextInt(9) - 1 : random.nextInt(2);
    }

    private int key() {
        return random.nextInt(30) == 0 ? random.nextInt() : keys[random.nextInt(keys.length)];
    }
}
