import java.util.ArrayList;
import java.util.List;

/** What the tests of single sentences share: a new object for each, and ways to ask it. */
abstract class Scene {
    static final int REFUSED = -1;
    static final int NONE = -2;
    static final int FULL = -3;
    static final long NOTHING = 1L << 40;
    static final int LEAST = Integer.MIN_VALUE;
    static final int GREATEST = Integer.MAX_VALUE;
    static final int MOST_SIZE = 60000;
    static final int MOST_ROWS = 300;
    static final int[] NO_TABLES = {-1, 6, 7, LEAST, GREATEST};

    /** Keys as they come: with so many, no leaf gets large, and 300 rows fit in the store. */
    static final int[] ANY = keysFrom(1, 0, 5);
    /** Keys of level 0, which end no leaf but as the last; the first one is 1. */
    static final int[] FLAT = keysFrom(1, 0, 0);
    /** Keys of level 5, each of which ends a node of every height below 5. */
    static final int[] TOP = keysFrom(1, 5, 5);

    final Checks checks = new Checks();
    Counted x = new Counted();
    private String sentence = "";

    /** A new object, for a sentence of the document. */
    void begin(String quoted) {
        x = new Counted();
        sentence = quoted;
    }

    void due(String call, long got, long want) {
        checks.due("«" + sentence + "»: " + call, got, want);
    }

    void dueTrue(String what, boolean holds) {
        due(what, holds ? 1 : 0, 1);
    }

    static int[] keysFrom(int first, int leastLevel, int mostLevel) {
        int[] keys = new int[MOST_ROWS + 1];
        int found = 0;
        for (int key = first; found < keys.length; key++) {
            int level = Model.level(key);
            if (level >= leastLevel && level <= mostLevel) {
                keys[found++] = key;
            }
        }
        return keys;
    }

    int set(int table, int key, int value) {
        return x.put(table, key, 0, value, false);
    }

    int setNull(int table, int key) {
        return x.put(table, key, 0, 0, true);
    }

    /** Gives a table so many rows, with its number of the key as the cell. */
    void setRows(int table, int[] keys, int rows) {
        for (int i = 0; i < rows; i++) {
            set(table, keys[i], i);
        }
    }

    /** Then no table has the empty node. */
    void leaveNoTableEmpty() {
        for (int table = 0; table < 6; table++) {
            set(table, 1, 0);
        }
    }

    void dueMeasures(int table, int rows, int columns, int height, int nodes) {
        int[] wants = {rows, columns, height, nodes};
        for (int what = 0; what < wants.length; what++) {
            due("measure(" + table + ", " + what + ")", x.measure(table, what), wants[what]);
        }
    }

    /** An empty table's node is one of height 0. */
    void dueEmpty(int table, int columns) {
        dueMeasures(table, 0, columns, 0, 1);
    }

    void dueCells(int table, int key, long... wants) {
        for (int column = 0; column < wants.length; column++) {
            due("get(" + table + ", " + key + ", " + column + ")", x.get(table, key, column), wants[column]);
        }
    }

    void dueStore(int nodes, int size) {
        due("count(0)", x.count(0), nodes);
        due("count(1)", x.count(1), size);
    }

    void dueDifference(int k, long key, long side, long unlike) {
        due("difference(" + k + ", 0)", x.difference(k, 0), key);
        due("difference(" + k + ", 1)", x.difference(k, 1), side);
        due("difference(" + k + ", 2)", x.difference(k, 2), unlike);
    }

    void dueNoDifference(int k) {
        dueDifference(k, NOTHING, NOTHING, NOTHING);
    }

    /** The whole state in few calls. */
    List<Long> state() {
        List<Long> state = tablesState();
        state.add((long) x.count(0));
        state.add((long) x.count(1));
        state.addAll(differencesState());
        return state;
    }

    /** A table's address stands for its rows and their cells. */
    List<Long> tablesState() {
        List<Long> state = new ArrayList<>();
        for (int table = 0; table < 6; table++) {
            for (int what = 0; what < 4; what++) {
                state.add((long) x.measure(table, what));
            }
            state.add(x.address(table));
        }
        return state;
    }

    List<Long> differencesState() {
        List<Long> state = new ArrayList<>();
        for (int k = 0; k < 3; k++) {
            for (int what = 0; what < 3; what++) {
                state.add(x.difference(k, what));
            }
        }
        return state;
    }

    void dueUnchanged(List<Long> before) {
        dueSame(state(), before);
    }

    void dueSame(List<Long> after, List<Long> before) {
        for (int i = 0; i < before.size(); i++) {
            due("what should not have changed, number " + i, after.get(i), before.get(i));
        }
    }

    /** Some rows and differences, so that a change that should not be has something to spoil. */
    void furnish() {
        x.make(0, 2);
        x.put(0, 1, 1, 5, false);
        x.put(0, 2, 0, 6, false);
        x.copy(1, 0);
        x.put(1, 1, 0, 7, false);
        x.remove(1, 2);
        set(2, 3, 4);
        x.compare(0, 1);
    }

    /**
     * Brings the store's size to 60000 less a room, by leaves of tables 0, 1 and 2 that grow by a
     * row each; the three are without rows, or have a row 1 of one column, before it.
     */
    void fillAllBut(int room) {
        int left = MOST_SIZE - room - x.count(1);
        left = growLeaf(0, left);
        left = growLeaf(1, left);
        if (left % 2 != 0) {
            x.make(1, 2);
            set(1, FLAT[0], 0);
            left -= 3;
        }
        for (int value = 1; left > 0; value++) {
            set(2, FLAT[0], 3000 + value);
            left -= 2;
        }
        due("the size of the filled store", x.count(1), MOST_SIZE - room);
    }

    /** Wide rows fill in fewer calls. */
    void fillWideAllBut(int room) {
        x.make(0, 6);
        x.make(1, 6);
        fillAllBut(room);
    }

    /** Leaves at least 3, which a leaf of size 3 and leaves of size 2 can fill. */
    private int growLeaf(int table, int left) {
        int rowSize = 1 + x.measure(table, 1);
        int rest = left;
        for (int rows = 1; rest - rows * rowSize >= 3; rows++) {
            set(table, FLAT[rows - 1], 1000 * (table + 1) + rows);
            rest -= rows * rowSize;
        }
        return rest;
    }
}
