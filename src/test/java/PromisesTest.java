/**
 * The promises one by one. Levels of the keys that are used here: 1, 3, 5 .. 10, -3, -5 and the
 * greatest int have level 0; 2 and the least int 1; 4 has 2; -1944 has 3; 241 has 4; 0, 660, 1663
 * and 3047 have 5.
 */
public final class PromisesTest {
    private static final long NOTHING = 1L << 40;
    private static final int LEAST = Integer.MIN_VALUE;
    private static final int GREATEST = Integer.MAX_VALUE;
    private static final int[] NO_TABLES = {-1, 6, 7, LEAST, GREATEST};

    private final Checks checks = new Checks();
    private TwinTrees x = new TwinTrees();
    private String part = "";

    public static void main(String[] args) {
        PromisesTest test = new PromisesTest();
        test.newObject();
        test.makeEmptiesAndWidens();
        test.makeRefuses();
        test.makeWritesTheEmptyNodeOnceItIsSwept();
        test.makeInAFullStore();
        test.putWritesCells();
        test.putRefuses();
        test.putWritesOnlyWhatIsNotThere();
        test.putTellsLikeNodesFromLikeAddresses();
        test.putTellsLikeNodesFromLikePrints();
        test.putStopsAtThreeHundredRows();
        test.putStopsAtTheStoresSize();
        test.putStopsOneAboveTheStoresSize();
        test.removeTakesRows();
        test.removeWithoutRoom();
        test.copyTakesRowsAndColumns();
        test.getAnswers();
        test.levelsShowInHeights();
        test.measureCountsNodes();
        test.addressFollowsTheNumbers();
        test.addressForgetsHistory();
        test.rowsByRisingKeys();
        test.compareFindsDifferences();
        test.compareRefuses();
        test.differencesStay();
        test.compareWithoutAnythingShared();
        test.sweepDropsWhatNoTableHas();
        test.countAnswers();
        test.checks.end("PromisesTest");
    }

    private void begin(String name) {
        x = new TwinTrees();
        part = name;
    }

    private void due(String call, long got, long want) {
        checks.due(part + ": " + call, got, want);
    }

    private int set(int table, int key, int value) {
        return x.put(table, key, 0, value, false);
    }

    private void dueMeasures(int table, int rows, int columns, int height, int nodes) {
        int[] wants = {rows, columns, height, nodes};
        for (int what = 0; what < wants.length; what++) {
            due("measure(" + table + ", " + what + ")", x.measure(table, what), wants[what]);
        }
    }

    private void dueStore(int nodes, int size) {
        due("count(0)", x.count(0), nodes);
        due("count(1)", x.count(1), size);
    }

    private void dueDifference(int k, long key, long side, long unlike) {
        due("difference(" + k + ", 0)", x.difference(k, 0), key);
        due("difference(" + k + ", 1)", x.difference(k, 1), side);
        due("difference(" + k + ", 2)", x.difference(k, 2), unlike);
    }

    private static int flatKey(int number) {
        int key = 0;
        for (int left = number; left >= 0; left--) {
            do {
                key++;
            } while (Model.level(key) != 0);
        }
        return key;
    }

    private void newObject() {
        begin("promise 1, new");
        for (int table = 0; table < 6; table++) {
            dueMeasures(table, 0, 1, 0, 1);
            due("address", x.address(table), Model.mix(0));
            due("row", x.row(table, 0), NOTHING);
            due("get", x.get(table, 0, 0), NOTHING - 2);
        }
        dueStore(1, 0);
        dueDifference(0, NOTHING, NOTHING, NOTHING);
        due("sweep", x.sweep(), 0);
        TwinTrees other = new TwinTrees();
        set(0, 1, 1);
        due("another object's rows", other.measure(0, 0), 0);
        due("another object's nodes", other.count(0), 1);
    }

    private void makeEmptiesAndWidens() {
        begin("promise 2, ordinary");
        for (int columns = 1; columns <= 6; columns++) {
            due("make(5, " + columns + ")", x.make(5, columns), 0);
            dueMeasures(5, 0, columns, 0, 1);
            due("put in the last column", x.put(5, 1, columns - 1, 7, false), 1);
            due("put beyond it", x.put(5, 1, columns, 7, false), TwinTrees.REFUSED);
        }
        due("make(5, 2) of a table with rows", x.make(5, 2), 0);
        dueMeasures(5, 0, 2, 0, 1);
        due("get of a row that went", x.get(5, 1, 0), NOTHING - 2);
        dueMeasures(4, 0, 1, 0, 1);
        dueStore(7, 2 + 3 + 4 + 5 + 6 + 7);
    }

    private void makeRefuses() {
        begin("promise 2, wrong");
        set(0, 1, 5);
        for (int table : NO_TABLES) {
            due("make(" + table + ", 1)", x.make(table, 1), TwinTrees.REFUSED);
        }
        for (int columns : new int[] {0, 7, -1, LEAST, GREATEST}) {
            due("make(0, " + columns + ")", x.make(0, columns), TwinTrees.REFUSED);
        }
        dueMeasures(0, 1, 1, 0, 1);
        due("get", x.get(0, 1, 0), 5);
        dueStore(2, 2);
    }

    private void makeWritesTheEmptyNodeOnceItIsSwept() {
        begin("promise 2, the empty node");
        for (int table = 0; table < 6; table++) {
            due("the same row in each", set(table, 1, 0), table == 0 ? 1 : 0);
        }
        due("sweep", x.sweep(), 1);
        dueStore(1, 2);
        due("make(3, 2)", x.make(3, 2), 1);
        due("make(4, 4)", x.make(4, 4), 0);
        dueStore(2, 2);
    }

    private void makeInAFullStore() {
        begin("promise 2, full store");
        fillStore();
        due("make(0, 3)", x.make(0, 3), 0);
        dueMeasures(0, 0, 3, 0, 1);
        due("count(1)", x.count(1), 60000);
    }

    private void putWritesCells() {
        begin("promise 3, cells");
        x.make(0, 3);
        due("a new row", x.put(0, 5, 1, 42, false), 1);
        due("cell 0", x.get(0, 5, 0), NOTHING);
        due("cell 1", x.get(0, 5, 1), 42);
        due("cell 2", x.get(0, 5, 2), NOTHING);
        due("another cell", x.put(0, 5, 2, LEAST, false), 1);
        due("the first stays", x.get(0, 5, 1), 42);
        due("the other", x.get(0, 5, 2), LEAST);
        due("NULL", x.put(0, 5, 1, 9, true), 1);
        due("is NULL", x.get(0, 5, 1), NOTHING);
        due("NULL again with another value", x.put(0, 5, 1, 10, true), 0);
        due("0 is not NULL", x.put(0, 5, 1, 0, false), 1);
        due("is 0", x.get(0, 5, 1), 0);
        due("a row of NULLs alone", x.put(0, 6, 0, 1, true), 1);
        due("it is there", x.measure(0, 0), 2);
        due("and NULL", x.get(0, 6, 0), NOTHING);
        due("the least key", x.put(0, LEAST, 0, GREATEST, false), 2);
        due("the greatest key", x.put(0, GREATEST, 0, -1, false), 2);
        due("cell of the least", x.get(0, LEAST, 0), GREATEST);
        due("cell of the greatest", x.get(0, GREATEST, 0), -1);
    }

    private void putRefuses() {
        begin("promise 3, wrong");
        x.make(1, 2);
        for (int table : NO_TABLES) {
            due("put in table " + table, x.put(table, 1, 0, 1, false), TwinTrees.REFUSED);
        }
        for (int column : new int[] {-1, 2, 6, LEAST, GREATEST}) {
            due("put in column " + column, x.put(1, 1, column, 1, false), TwinTrees.REFUSED);
            due("put of NULL in column " + column, x.put(1, 1, column, 1, true), TwinTrees.REFUSED);
        }
        due("rows", x.measure(1, 0), 0);
        dueStore(1, 0);
    }

    private void putWritesOnlyWhatIsNotThere() {
        begin("promise 3, written");
        due("660", set(0, 660, 0), 1);
        due("1663 ends a node of each height", set(0, 1663, 1), 10);
        due("the same again", set(0, 1663, 1), 0);
        due("another value", set(0, 1663, 2), 6);
        due("back to what still is there", set(0, 1663, 1), 0);
        due("the same row elsewhere", set(1, 660, 0), 0);
        due("and the other", set(1, 1663, 1), 0);
        due("the two are one", x.compare(0, 1), 0);
        dueStore(1 + 1 + 10 + 6, 2 + 2 + 4 * 2 + 2 + 2 + 4 + 2);
    }

    /** As numbers, a row -3 with NULL and 0 reads like rows -3 and 1 with a NULL each. */
    private void putTellsLikeNodesFromLikeAddresses() {
        begin("promise 3, like addresses");
        x.put(0, -3, 0, 0, true);
        due("two rows of one column", x.put(0, 1, 0, 0, true), 1);
        x.make(1, 2);
        x.put(1, -3, 0, 0, true);
        due("one row of two columns", x.put(1, -3, 1, 0, false), 1);
        due("addresses", x.address(1), x.address(0));
        due("address", x.address(1), Model.mix(0, -3, 0, 1, 0));
        dueMeasures(0, 2, 1, 0, 1);
        dueMeasures(1, 1, 2, 0, 1);
        dueStore(5, 2 + 4 + 3 + 3);
    }

    /** Numbers chosen so that the program's own short prints of unlike nodes are the same. */
    private void putTellsLikeNodesFromLikePrints() {
        begin("promise 3, like prints");
        set(0, 5, 0);
        set(0, 50, 0);
        set(1, 6, 0);
        due("other keys", set(1, 19, 0), 1);
        due("row(1, 0)", x.row(1, 0), 6);
        due("row(1, 1)", x.row(1, 1), 19);
        x.make(2, 2);
        x.put(2, -3, 1, 86490, false);
        due("one row of two columns", x.put(2, -3, 0, 0, false), 1);
        due("one row of one column", set(3, -3, 0), 1);
        due("address", x.address(3), Model.mix(0, -3, 1, 0));
    }

    private void putStopsAtThreeHundredRows() {
        begin("promise 3, 301 rows");
        for (int key = 0; key < 299; key++) {
            set(2, key, key);
        }
        due("the 300th", x.put(2, 299, 0, 299, false) > 0 ? 1 : 0, 1);
        long address = x.address(2);
        int nodes = x.count(0);
        due("the 301st", set(2, 300, 0), TwinTrees.FULL);
        due("the 301st with NULL", x.put(2, -1, 0, 0, true), TwinTrees.FULL);
        due("a wrong column first", x.put(2, 300, 1, 0, false), TwinTrees.REFUSED);
        due("address", x.address(2), address);
        due("count(0)", x.count(0), nodes);
        due("rows", x.measure(2, 0), 300);
        due("no 301st", x.row(2, 300), NOTHING);
        due("a cell of a row that is there", set(2, 299, 5) > 0 ? 1 : 0, 1);
        due("that cell", x.get(2, 299, 0), 5);
        due("in another table", set(3, 300, 0), 1);
        x.remove(2, 0);
        due("where a row has gone", set(2, 300, 1) > 0 ? 1 : 0, 1);
        due("rows again", x.measure(2, 0), 300);
    }

    /** Brings the store to a size of 244 * 245 + 14 * 15 = 59990, with tables 0 and 1. */
    private void nearlyFillStore() {
        for (int i = 0; i < 244; i++) {
            set(0, flatKey(i), i);
        }
        for (int i = 0; i < 14; i++) {
            set(1, flatKey(i), -1 - i);
        }
    }

    /** Brings the store to a size of exactly 60000, with table 2 besides. */
    private void fillStore() {
        nearlyFillStore();
        x.make(2, 4);
        set(2, 1, 1);
        set(2, 1, 2);
    }

    private void putStopsAtTheStoresSize() {
        begin("promise 3, no room");
        fillStore();
        dueStore(1 + 244 + 14 + 2, 60000);
        long address = x.address(0);
        due("one row more", set(3, 1, 77), TwinTrees.FULL);
        due("a new cell", set(0, 1, 77), TwinTrees.FULL);
        due("another key", set(0, flatKey(244), 0), TwinTrees.FULL);
        due("address", x.address(0), address);
        due("cell", x.get(0, 1, 0), 0);
        due("rows of 3", x.measure(3, 0), 0);
        dueStore(1 + 244 + 14 + 2, 60000);
        due("what is there needs no room", set(3, 1, 0), 0);
        // Of 0, 1 and 2 all but the last leaf goes; table 3 has the first one of 0.
        due("sweep", x.sweep(), 243 + 13 + 1 - 1);
        due("room again", set(0, 1, 77), 1);
    }

    private void putStopsOneAboveTheStoresSize() {
        begin("promise 3, room for 1");
        nearlyFillStore();
        x.make(2, 2);
        for (int value = 1; value <= 3; value++) {
            set(2, 1, value);
        }
        due("count(1)", x.count(1), 59999);
        due("a leaf of size 2", set(3, 1, 77), TwinTrees.FULL);
        due("count(1)", x.count(1), 59999);
    }

    private void removeTakesRows() {
        begin("promise 4, ordinary");
        for (int key = 1; key <= 4; key++) {
            set(0, key, key);
        }
        dueMeasures(0, 4, 1, 1, 3);
        due("an end of a leaf", x.remove(0, 2), 1);
        dueMeasures(0, 3, 1, 0, 1);
        due("gone", x.get(0, 2, 0), NOTHING - 2);
        due("others stay", x.get(0, 3, 0), 3);
        due("again", x.remove(0, 2), TwinTrees.NONE);
        due("never there", x.remove(0, LEAST), TwinTrees.NONE);
        due("of an empty table", x.remove(1, 1), TwinTrees.NONE);
        for (int table : NO_TABLES) {
            due("of table " + table, x.remove(table, 1), TwinTrees.REFUSED);
        }
        due("1: a leaf of 3 and 4 still is there", x.remove(0, 1), 0);
        due("3: one of 4 is not", x.remove(0, 3), 1);
        due("4, the last", x.remove(0, 4), 0);
        dueMeasures(0, 0, 1, 0, 1);
        due("address", x.address(0), Model.mix(0));
    }

    private void removeWithoutRoom() {
        begin("promise 4, no room");
        fillStore();
        long address = x.address(0);
        due("the first of a long leaf", x.remove(0, flatKey(0)), TwinTrees.FULL);
        due("address", x.address(0), address);
        due("rows", x.measure(0, 0), 244);
        due("cell", x.get(0, flatKey(0), 0), 0);
        dueStore(1 + 244 + 14 + 2, 60000);
        due("no such row", x.remove(0, -1), TwinTrees.NONE);
        due("the last: what remains is there", x.remove(0, flatKey(243)), 0);
        due("rows", x.measure(0, 0), 243);
        due("sweep", x.sweep() > 0 ? 1 : 0, 1);
        due("with room", x.remove(0, flatKey(0)), 1);
    }

    private void copyTakesRowsAndColumns() {
        begin("promise 5");
        x.make(0, 2);
        x.put(0, 2, 1, 5, false);
        x.put(0, 3, 0, 6, false);
        int nodes = x.count(0);
        due("copy(4, 0)", x.copy(4, 0), 0);
        due("count(0)", x.count(0), nodes);
        dueMeasures(4, 2, 2, 1, 3);
        due("cell", x.get(4, 2, 1), 5);
        due("address", x.address(4), x.address(0));
        due("onto itself", x.copy(0, 0), 0);
        dueMeasures(0, 2, 2, 1, 3);
        x.put(4, 3, 0, 7, false);
        due("the first does not follow", x.get(0, 3, 0), 6);
        x.remove(0, 2);
        due("nor the second", x.get(4, 2, 1), 5);
        due("an empty one", x.copy(4, 5), 0);
        dueMeasures(4, 0, 1, 0, 1);
        for (int table : NO_TABLES) {
            due("copy to " + table, x.copy(table, 0), TwinTrees.REFUSED);
            due("copy from " + table, x.copy(0, table), TwinTrees.REFUSED);
        }
        dueMeasures(0, 1, 2, 0, 1);
    }

    private void getAnswers() {
        begin("promise 6");
        x.make(0, 6);
        int[] keys = {LEAST, -1944, -3, 0, 1, 2, 4, 241, 660, GREATEST};
        for (int key : keys) {
            x.put(0, key, 5, ~key, false);
        }
        for (int key : keys) {
            due("get(0, " + key + ", 5)", x.get(0, key, 5), ~key);
            due("get(0, " + key + ", 4)", x.get(0, key, 4), NOTHING);
        }
        for (int key : new int[] {LEAST + 1, -1945, -1943, -1, 3, 5, 240, 661, GREATEST - 1}) {
            due("get(0, " + key + ", 5)", x.get(0, key, 5), NOTHING - 2);
        }
        for (int column : new int[] {-1, 6, LEAST, GREATEST}) {
            due("column " + column, x.get(0, 1, column), NOTHING - 1);
            due("column " + column + " and no row", x.get(0, 3, column), NOTHING - 1);
        }
        due("column beyond a narrower table", x.get(1, 1, 1), NOTHING - 1);
        for (int table : NO_TABLES) {
            due("table " + table, x.get(table, 1, 0), NOTHING - 1);
        }
    }

    /** The first of two rows alone decides how high a tree they make: as high as its level. */
    private void levelsShowInHeights() {
        begin("terms, levels");
        int[][] levels = {{1, 0}, {3, 0}, {-5, 0}, {2, 1}, {LEAST, 1}, {4, 2}, {-1944, 3}, {241, 4}, {0, 5}, {660, 5}};
        for (int[] level : levels) {
            x.make(0, 1);
            set(0, level[0], 0);
            set(0, GREATEST, 0);
            int nodes = level[1] == 0 ? 1 : 2 * level[1] + 1;
            dueMeasures(0, 2, 1, level[1], nodes);
        }
    }

    private void measureCountsNodes() {
        begin("promise 7");
        set(3, 660, 0);
        dueMeasures(3, 1, 1, 0, 1);
        set(3, 1663, 0);
        dueMeasures(3, 2, 1, 5, 11);
        set(3, 661, 0);
        dueMeasures(3, 3, 1, 5, 11);
        x.remove(3, 660);
        dueMeasures(3, 2, 1, Model.level(661), Model.level(661) == 0 ? 1 : 2 * Model.level(661) + 1);
        for (int what : new int[] {-1, 4, LEAST, GREATEST}) {
            due("measure(3, " + what + ")", x.measure(3, what), TwinTrees.REFUSED);
        }
        for (int table : NO_TABLES) {
            for (int what = -1; what < 5; what++) {
                due("measure(" + table + ", " + what + ")", x.measure(table, what), TwinTrees.REFUSED);
            }
        }
    }

    private void addressFollowsTheNumbers() {
        begin("promise 8, numbers");
        due("empty", x.address(0), 4953163356653287321L);
        x.make(0, 2);
        due("empty, of two columns", x.address(0), 4953163356653287321L);
        x.put(0, -3, 1, -7, false);
        due("a row", x.address(0), Model.mix(0, -3, 0, 1, -7));
        x.put(0, -3, 0, 0, false);
        due("of 0 and -7", x.address(0), Model.mix(0, -3, 1, 0, 1, -7));
        x.put(0, 2, 0, LEAST, false);
        due("two rows", x.address(0), Model.mix(0, -3, 1, 0, 1, -7, 2, 1, LEAST, 0));
        x.put(0, 3, 0, 0, true);
        long first = Model.mix(0, -3, 1, 0, 1, -7, 2, 1, LEAST, 0);
        long second = Model.mix(0, 3, 0, 0);
        due("two leaves", x.address(0), Model.mix(1, first, second));
        due("again", x.address(0), Model.mix(1, first, second));
        for (int table : NO_TABLES) {
            due("table " + table, x.address(table), 0);
        }
    }

    private void addressForgetsHistory() {
        begin("promise 8, history");
        for (int key = 0; key < 60; key++) {
            set(0, key * 11, key);
        }
        for (int key = 59; key >= 0; key--) {
            set(1, key * 11, -1);
            set(1, key * 11 + 1, key);
        }
        for (int key = 0; key < 60; key++) {
            set(1, key * 11, key);
            x.remove(1, key * 11 + 1);
        }
        due("address", x.address(1), x.address(0));
        due("compare", x.compare(0, 1), 0);
        dueMeasures(1, 60, 1, x.measure(0, 2), x.measure(0, 3));
    }

    private void rowsByRisingKeys() {
        begin("promise 9");
        int[] keys = {LEAST, -1944, -3, 0, 1, 2, 3, 4, 241, 660, 1663, GREATEST};
        for (int i = 0; i < keys.length; i++) {
            set(5, keys[i * 5 % keys.length], i);
        }
        for (int i = 0; i < keys.length; i++) {
            due("row(5, " + i + ")", x.row(5, i), keys[i]);
        }
        for (int k : new int[] {-1, keys.length, 300, LEAST, GREATEST}) {
            due("row(5, " + k + ")", x.row(5, k), NOTHING);
        }
        due("row of an empty table", x.row(4, 0), NOTHING);
        for (int table : NO_TABLES) {
            due("row(" + table + ", 0)", x.row(table, 0), NOTHING);
        }
    }

    private void compareFindsDifferences() {
        begin("promises 10 and 11, ordinary");
        x.make(0, 3);
        for (int key = -40; key < 40; key++) {
            x.put(0, key, 0, key, false);
        }
        x.copy(1, 0);
        due("a copy", x.compare(0, 1), 0);
        due("none", x.difference(0, 0), NOTHING);
        x.remove(1, -7);
        x.put(1, 1000, 0, 0, false);
        x.put(1, 0, 0, 9, false);
        x.put(1, 0, 2, 9, false);
        x.put(1, 5, 1, 0, false);
        x.put(1, 6, 0, 7, false);
        x.put(1, 6, 0, 6, false);
        due("compare(0, 1)", x.compare(0, 1), 4);
        dueDifference(0, -7, 1, 0);
        dueDifference(1, 0, 2, 5);
        dueDifference(2, 5, 2, 2);
        dueDifference(3, 1000, 0, 0);
        dueDifference(4, NOTHING, NOTHING, NOTHING);
        dueDifference(-1, NOTHING, NOTHING, NOTHING);
        dueDifference(LEAST, NOTHING, NOTHING, NOTHING);
        dueDifference(GREATEST, NOTHING, NOTHING, NOTHING);
        for (int what : new int[] {-1, 3, LEAST, GREATEST}) {
            due("difference(0, " + what + ")", x.difference(0, what), NOTHING);
        }
        due("compare(1, 0)", x.compare(1, 0), 4);
        dueDifference(0, -7, 0, 0);
        dueDifference(1, 0, 2, 5);
        dueDifference(3, 1000, 1, 0);
        due("with itself", x.compare(1, 1), 0);
        dueDifference(0, NOTHING, NOTHING, NOTHING);
    }

    private void compareRefuses() {
        begin("promise 10, wrong");
        set(0, 1, 1);
        x.make(2, 2);
        due("compare(0, 1)", x.compare(0, 1), 1);
        due("compare(0, 2)", x.compare(0, 2), TwinTrees.REFUSED);
        due("compare(2, 1), both empty", x.compare(2, 1), TwinTrees.REFUSED);
        for (int table : NO_TABLES) {
            due("compare(" + table + ", 1)", x.compare(table, 1), TwinTrees.REFUSED);
            due("compare(1, " + table + ")", x.compare(1, table), TwinTrees.REFUSED);
            due("compare(" + table + ", itself)", x.compare(table, table), TwinTrees.REFUSED);
        }
        dueDifference(0, 1, 1, 0);
        dueDifference(1, NOTHING, NOTHING, NOTHING);
    }

    private void differencesStay() {
        begin("promise 11, later changes");
        set(0, 1, 1);
        set(0, 2, 2);
        set(1, 2, 3);
        due("compare(0, 1)", x.compare(0, 1), 2);
        x.copy(1, 0);
        x.make(0, 4);
        x.sweep();
        dueDifference(0, 1, 1, 0);
        dueDifference(1, 2, 2, 1);
        due("compare(2, 3)", x.compare(2, 3), 0);
        dueDifference(0, NOTHING, NOTHING, NOTHING);
    }

    private void compareWithoutAnythingShared() {
        begin("promise 10, apart");
        x.make(0, 6);
        x.make(1, 6);
        for (int key = 0; key < 200; key++) {
            x.put(0, 2 * key, 5, key, false);
            x.put(1, 2 * key + 1, 5, key, false);
        }
        due("compare(0, 1)", x.compare(0, 1), 400);
        for (int k : new int[] {0, 1, 200, 398, 399}) {
            dueDifference(k, k, k % 2 == 0 ? 1 : 0, 0);
        }
        x.put(0, 1, 5, 1, false);
        x.put(0, 1, 0, 0, false);
        due("compare(0, 1)", x.compare(0, 1), 400);
        dueDifference(1, 1, 2, 1 + 32);
    }

    private void sweepDropsWhatNoTableHas() {
        begin("promise 12");
        due("a new object's", x.sweep(), 0);
        set(0, 1, 1);
        set(0, 1, 2);
        set(0, 1, 3);
        due("two that were", x.sweep(), 2);
        dueStore(2, 2);
        due("twice", x.sweep(), 0);
        due("swept, so written anew", set(0, 1, 2), 1);
        x.copy(1, 0);
        x.make(0, 1);
        due("3 alone goes: table 1 has 2", x.sweep(), 1);
        due("cell", x.get(1, 1, 0), 2);
        set(1, 660, 0);
        set(1, 1663, 0);
        dueMeasures(1, 3, 1, 5, 11);
        due("the leaf of 1 alone", x.sweep(), 1);
        due("nodes of a tree stay", x.count(0), 12);
        x.make(1, 1);
        due("a whole tree", x.sweep(), 11);
        dueStore(1, 0);
    }

    private void countAnswers() {
        begin("promise 13");
        dueStore(1, 0);
        x.make(0, 6);
        set(0, 660, 1);
        dueStore(2, 7);
        set(0, 1663, 1);
        dueStore(12, 7 + 7 + 4 * 2 + 2);
        x.copy(1, 0);
        dueStore(12, 24);
        x.remove(1, 660);
        dueStore(12, 24);
        for (int what : new int[] {-1, 2, LEAST, GREATEST}) {
            due("count(" + what + ")", x.count(what), TwinTrees.REFUSED);
        }
    }
}
