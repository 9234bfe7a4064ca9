/**
 * An object whose calls are counted: nothing is promised after the 512th, so a test that went
 * beyond would ask for more than the document does.
 */
final class Counted {
    private static final int MOST_CALLS = 512;

    private final TwinTrees trees = new TwinTrees();
    private int calls = 0;

    int callsLeft() {
        return MOST_CALLS - calls;
    }

    int make(int table, int columns) {
        return next().make(table, columns);
    }

    int put(int table, int key, int column, int value, boolean none) {
        return next().put(table, key, column, value, none);
    }

    int remove(int table, int key) {
        return next().remove(table, key);
    }

    int copy(int table, int from) {
        return next().copy(table, from);
    }

    long get(int table, int key, int column) {
        return next().get(table, key, column);
    }

    int measure(int table, int what) {
        return next().measure(table, what);
    }

    long address(int table) {
        return next().address(table);
    }

    long row(int table, int k) {
        return next().row(table, k);
    }

    int compare(int one, int two) {
        return next().compare(one, two);
    }

    long difference(int k, int what) {
        return next().difference(k, what);
    }

    int sweep() {
        return next().sweep();
    }

    int count(int what) {
        return next().count(what);
    }

    private TwinTrees next() {
        calls++;
        if (calls > MOST_CALLS) {
            throw new IllegalStateException("a test makes more than 512 calls on one object");
        }
        return trees;
    }
}
