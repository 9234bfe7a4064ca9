/** The sentences of the section 'Terms', edge by edge. */
public final class TermsTest extends Scene {
    public static void main(String[] args) {
        TermsTest test = new TermsTest();
        test.tables();
        test.levels();
        test.nodes();
        test.sizes();
        test.likeness();
        test.addresses();
        test.store();
        test.checks.end("TermsTest");
    }

    private void tables() {
        cellIsAnyIntOrNull();
        tablesAreSix();
        columnsAreOneToSix();
        oneColumnAtFirst();
        threeHundredRowsAtMost();
        noRowsAtFirst();
        keyIsAnyInt();
        keyStandsOnceInATable();
        cellInEachColumn();
        fiveHundredAndTwelveCalls();
    }

    private void levels() {
        levelIsRoundedDown();
        levelIsAtMostFive();
        levelOfZeroIsFive();
        levelShiftsInZeros();
    }

    private void nodes() {
        leafEndsAtLevelOne();
        leafEndsWithTheLastRow();
        branchEndsAtTwoAboveTheHeightBelow();
        branchEndsWithTheLastNode();
        heightsEndWhereThereIsOneNode();
        tableWithoutRowsHasOneNode();
    }

    private void sizes() {
        sizeOfRows();
        sizeOfNodesBelow();
        sizeOfAnEmptyNode();
    }

    private void likeness() {
        unlikeByKey();
        unlikeByCell();
        unlikeByNull();
        unlikeByColumns();
        unlikeByHeight();
        unlikeThoughOfOneAddress();
        unlikeThoughOfOnePrint();
        unlikeThoughOfOnePrintByNull();
        likeEmptyNodesOfAnyColumns();
        likeNodesInTwoPlaces();
    }

    private void addresses() {
        addressOfNoNumberButTheHeight();
        addressTakesIntsWithTheirSign();
        addressTellsNullFromZero();
        addressTakesEachCell();
        addressOfNodesBelow();
    }

    private void store() {
        storeHasOneNodeAtFirst();
        storeKeepsOneOfLikeNodes();
        storeHoldsSixtyThousand();
        storeHoldsNoMore();
        changeWritesNoneAtAll();
        nodesThatNoTableHasAreThere();
        nodesStayTillSweep();
    }

    private void cellIsAnyIntOrNull() {
        begin("A CELL is an int or NULL");
        for (int value : new int[] {LEAST, LEAST + 1, -3, -2, -1, 0, 1, GREATEST - 1, GREATEST}) {
            due("put of " + value, set(0, 1, value), 1);
            dueCells(0, 1, value);
        }
        due("put of NULL", setNull(0, 1), 1);
        dueCells(0, 1, NOTHING);
    }

    private void tablesAreSix() {
        begin("TABLES 0 .. 5");
        for (int table = 0; table <= 5; table++) {
            set(table, 1, table);
            due("rows of " + table, x.measure(table, 0), 1);
        }
        for (int table = 0; table <= 5; table++) {
            dueCells(table, 1, table);
        }
        for (int table : new int[] {-1, 6}) {
            due("put in " + table, set(table, 1, 0), REFUSED);
            due("make of " + table, x.make(table, 1), REFUSED);
            due("measure of " + table, x.measure(table, 0), REFUSED);
        }
    }

    private void columnsAreOneToSix() {
        begin("1 .. 6 COLUMNS each");
        for (int columns = 1; columns <= 6; columns++) {
            x.make(columns - 1, columns);
        }
        for (int columns = 1; columns <= 6; columns++) {
            int table = columns - 1;
            due("columns of " + table, x.measure(table, 1), columns);
            due("put in the last one", x.put(table, 1, columns - 1, 7, false), 1);
            due("put in one beyond", x.put(table, 1, columns, 7, false), REFUSED);
        }
    }

    private void oneColumnAtFirst() {
        begin("(1 at first)");
        for (int table = 0; table <= 5; table++) {
            due("columns", x.measure(table, 1), 1);
            due("get of column 0", x.get(table, 1, 0), NOTHING + NONE);
            due("get of column 1", x.get(table, 1, 1), NOTHING + REFUSED);
            due("put in column 1", x.put(table, 1, 1, 0, false), REFUSED);
            due("put in column 0", x.put(table, 1, 0, table, false), 1);
        }
    }

    private void threeHundredRowsAtMost() {
        begin("at most 300 ROWS");
        setRows(5, ANY, 299);
        due("rows", x.measure(5, 0), 299);
        set(5, ANY[299], 0);
        due("rows", x.measure(5, 0), 300);
        set(5, ANY[300], 0);
        due("rows", x.measure(5, 0), 300);
    }

    private void noRowsAtFirst() {
        begin("(none at first)");
        for (int table = 0; table <= 5; table++) {
            due("rows", x.measure(table, 0), 0);
            due("row 0", x.row(table, 0), NOTHING);
            due("remove", x.remove(table, 0), NONE);
        }
    }

    private void keyIsAnyInt() {
        begin("a KEY, an int");
        int[] keys = {LEAST, LEAST + 1, -2, -1, 0, 1, GREATEST - 1, GREATEST};
        for (int i = 0; i < keys.length; i++) {
            set(0, keys[i * 3 % keys.length], i * 3 % keys.length);
        }
        for (int i = 0; i < keys.length; i++) {
            due("row " + i, x.row(0, i), keys[i]);
            dueCells(0, keys[i], i);
        }
    }

    private void keyStandsOnceInATable() {
        begin("which no other one of the table has");
        set(0, 1, 1);
        set(0, 1, 2);
        due("rows", x.measure(0, 0), 1);
        due("a second row", x.row(0, 1), NOTHING);
        set(1, 1, 3);
        dueCells(0, 1, 2);
        dueCells(1, 1, 3);
        x.remove(0, 1);
        dueCells(0, 1, NOTHING + NONE);
        dueCells(1, 1, 3);
    }

    private void cellInEachColumn() {
        begin("and a cell in each column");
        x.make(0, 6);
        for (int column = 0; column < 6; column++) {
            x.put(0, 4, column, 10 + column, false);
        }
        dueCells(0, 4, 10, 11, 12, 13, 14, 15);
    }

    private void fiveHundredAndTwelveCalls() {
        begin("An object is used for at most 512 calls");
        while (x.callsLeft() > 2) {
            set(0, 1, x.callsLeft());
        }
        due("the 511th call", set(0, 1, -1), 1);
        due("the 512th call", x.count(0), 1 + 510 + 1);
    }

    /** Two rows make a tree as high as the level of the first one's key. */
    private void dueLevel(int key, int level) {
        x.make(0, 1);
        set(0, key, 0);
        set(0, GREATEST, 0);
        due("level of " + key, x.measure(0, 2), level);
        due("nodes above " + key, x.measure(0, 3), level == 0 ? 1 : 2 * level + 1);
    }

    /** The keys' numbers x can be halved 0, 1, 2, .. 11 times. */
    private void levelIsRoundedDown() {
        begin("how often x can be halved, halved itself (rounded down)");
        int[] keys = {3, 1, 2, 64, 126, 4, 261, 190, 640, 241, 660, 1663};
        for (int halvings = 0; halvings < keys.length; halvings++) {
            dueLevel(keys[halvings], halvings / 2);
        }
        int[] negative = {8, 5, 32, 78, 35, 245, 500, 1238, 2393, 3502, 3047, 6917};
        for (int halvings = 0; halvings < negative.length; halvings++) {
            dueLevel(negative[halvings], halvings / 2);
        }
    }

    /** The keys' numbers x can be halved 12, 13, 14, 18, 22 and 31 times. */
    private void levelIsAtMostFive() {
        begin("at most 5");
        for (int key : new int[] {12535, 26743, 62971, 14383, 57532, 698241107}) {
            dueLevel(key, 5);
        }
    }

    private void levelOfZeroIsFive() {
        begin("and 5 if x is 0");
        dueLevel(0, 5);
    }

    /** With x >> 15 for x >>> 15 these would have other levels. */
    private void levelShiftsInZeros() {
        begin("x = x ^ x >>> 15; (ints that wrap)");
        int[][] levels = {{367, 2}, {483, 3}, {572, 3}, {640, 4}, {660, 5}, {-19965, 2}, {-19954, 4}};
        for (int[] level : levels) {
            dueLevel(level[0], level[1]);
        }
    }

    private void leafEndsAtLevelOne() {
        begin("runs of its rows by rising keys, each of which ends with a row of level 1 or above");
        set(0, 1, 0);
        set(0, 3, 0);
        dueMeasures(0, 2, 1, 0, 1);
        set(0, 2, 0);
        dueMeasures(0, 3, 1, 1, 3);
        set(1, 3, 0);
        set(1, 4, 0);
        set(1, 5, 0);
        dueMeasures(1, 3, 1, 2, 5);
        due("[1 2] [3]", x.address(0), Model.mix(1, Model.mix(0, 1, 1, 0, 2, 1, 0), Model.mix(0, 3, 1, 0)));
    }

    private void leafEndsWithTheLastRow() {
        begin("or with the last one");
        set(0, 2, 0);
        dueMeasures(0, 1, 1, 0, 1);
        due("[2]", x.address(0), Model.mix(0, 2, 1, 0));
        set(0, 1, 0);
        dueMeasures(0, 2, 1, 0, 1);
        due("[1 2]", x.address(0), Model.mix(0, 1, 1, 0, 2, 1, 0));
        set(1, 1, 0);
        set(1, 3, 0);
        due("[1 3]", x.address(1), Model.mix(0, 1, 1, 0, 3, 1, 0));
    }

    /** Behind a row of level 1 more levels 0 follow, and so on to level 5. */
    private void branchEndsAtTwoAboveTheHeightBelow() {
        begin("each of which ends with a node whose last row has a level of h + 2 or above");
        int[] keys = {2, 4, -1944, 241, 660};
        for (int level = 1; level <= 5; level++) {
            x.make(0, 1);
            set(0, keys[level - 1], 0);
            set(0, GREATEST, 0);
            dueMeasures(0, 2, 1, level, 2 * level + 1);
            // Below the height of the one node the two rows are in nodes of their own.
            long first = Model.mix(0, keys[level - 1], 1, 0);
            long second = Model.mix(0, GREATEST, 1, 0);
            for (int height = 1; height < level; height++) {
                first = Model.mix(height, first);
                second = Model.mix(height, second);
            }
            due("address", x.address(0), Model.mix(level, first, second));
        }
    }

    private void branchEndsWithTheLastNode() {
        begin("or with the last one; of height h + 1");
        set(0, 2, 0);
        set(0, 660, 0);
        dueMeasures(0, 2, 1, 1, 3);
        due("[[2] [660]]", x.address(0), Model.mix(1, Model.mix(0, 2, 1, 0), Model.mix(0, 660, 1, 0)));
        set(1, 2, 0);
        set(1, 23, 0);
        set(1, 24, 0);
        dueMeasures(1, 3, 1, 1, 4);
    }

    private void heightsEndWhereThereIsOneNode() {
        begin("up to the height at which there is one node");
        set(0, 660, 0);
        dueMeasures(0, 1, 1, 0, 1);
        set(0, 659, 0);
        dueMeasures(0, 2, 1, 0, 1);
        for (int i = 0; i < 20; i++) {
            set(1, TOP[i], 0);
        }
        dueMeasures(1, 20, 1, 5, 20 * 5 + 1);
    }

    private void tableWithoutRowsHasOneNode() {
        begin("(A table without rows has one, of height 0.)");
        dueEmpty(0, 1);
        set(0, 660, 0);
        set(0, 1663, 0);
        x.remove(0, 660);
        x.remove(0, 1663);
        dueEmpty(0, 1);
        set(1, 660, 0);
        set(1, 1663, 0);
        x.make(1, 6);
        dueEmpty(1, 6);
    }

    private void sizeOfRows() {
        begin("SIZE: for each of its rows 1 and the number of columns");
        int size = 0;
        for (int columns = 1; columns <= 6; columns++) {
            x.make(0, columns);
            setNull(0, 1);
            size += 1 + columns;
            due("a row of NULLs in " + columns + " columns", x.count(1), size);
            x.put(0, 3, columns - 1, 9, false);
            size += 2 * (1 + columns);
            due("two rows in " + columns + " columns", x.count(1), size);
        }
    }

    private void sizeOfNodesBelow() {
        begin("or its number of nodes below");
        set(0, 2, 0);
        dueStore(2, 2);
        set(0, 3, 0);
        dueStore(4, 2 + 2 + 2);
        set(0, 23, 0);
        dueStore(6, 6 + 4 + 2);
        set(0, 24, 0);
        dueStore(8, 12 + 2 + 3);
        x.make(1, 6);
        set(1, 660, 0);
        set(1, 1663, 0);
        due("four pairs of nodes with one below, and one with two", x.count(1), 17 + 7 + 7 + 4 * 2 + 2);
    }

    private void sizeOfAnEmptyNode() {
        begin("SIZE: for each of its rows, of which there may be none");
        dueStore(1, 0);
        x.make(0, 6);
        dueStore(1, 0);
    }

    private void unlikeByKey() {
        begin("Two nodes are LIKE if they have like rows (keys)");
        set(0, 1, 5);
        due("another key", set(1, 3, 5), 1);
        dueStore(3, 4);
    }

    private void unlikeByCell() {
        begin("Two nodes are LIKE if they have like rows (cells)");
        x.make(0, 6);
        x.put(0, 1, 5, 5, false);
        x.make(1, 6);
        due("another cell in the last column", x.put(1, 1, 5, 6, false), 1);
        x.make(2, 6);
        due("that cell in another column", x.put(2, 1, 4, 5, false), 1);
        x.make(3, 6);
        due("all as in table 0", x.put(3, 1, 5, 5, false), 0);
    }

    private void unlikeByNull() {
        begin("like rows (cells): an int is not NULL");
        setNull(0, 1);
        due("0", set(1, 1, 0), 1);
        due("-1", set(2, 1, -1), 1);
        due("1", set(3, 1, 1), 1);
        due("NULL", setNull(4, 1), 0);
        due("NULL by another value", x.put(5, 1, 0, 77, true), 0);
    }

    private void unlikeByColumns() {
        begin("like rows (cells): as many of them");
        setNull(0, 1);
        x.make(1, 2);
        due("two NULLs for one", setNull(1, 1), 1);
        x.make(2, 3);
        due("three for two", setNull(2, 1), 1);
        dueStore(4, 2 + 3 + 4);
    }

    private void unlikeByHeight() {
        begin("Two nodes are LIKE if they have the same height");
        set(0, 660, 0);
        set(0, 1663, 0);
        due("single nodes above one another", x.measure(0, 3), 11);
        dueStore(1 + 11, 2 + 2 + 8 + 2);
    }

    /** As numbers, a row -3 with NULL and 0 reads like rows -3 and 1 with a NULL each. */
    private void unlikeThoughOfOneAddress() {
        begin("Two nodes are LIKE by rows, not by address");
        setNull(0, -3);
        due("two rows of one column", setNull(0, 1), 1);
        x.make(1, 2);
        setNull(1, -3);
        due("one row of two columns", x.put(1, -3, 1, 0, false), 1);
        due("the first address", x.address(0), Model.mix(0, -3, 0, 1, 0));
        due("the second address", x.address(1), Model.mix(0, -3, 0, 1, 0));
        dueMeasures(0, 2, 1, 0, 1);
        dueMeasures(1, 1, 2, 0, 1);
        dueStore(5, 2 + 4 + 3 + 3);
    }

    /** Numbers chosen so that the program's own short prints of unlike nodes are the same. */
    private void unlikeThoughOfOnePrint() {
        begin("Two nodes are LIKE by rows, not by a short print of them");
        set(0, 5, 0);
        set(0, 50, 0);
        set(1, 6, 0);
        due("other keys", set(1, 19, 0), 1);
        due("row(1, 0)", x.row(1, 0), 6);
        due("row(1, 1)", x.row(1, 1), 19);
        x.make(2, 2);
        x.put(2, -3, 1, 86490, false);
        due("one row of two columns", set(2, -3, 0), 1);
        due("one row of one column", set(3, -3, 0), 1);
        due("address", x.address(3), Model.mix(0, -3, 1, 0));
        set(4, 2, 5);
        set(4, 3, 100);
        set(5, 2, 6);
        due("other nodes below", set(5, 3, 69), 2);
        dueCells(5, 2, 6);
        dueCells(5, 3, 69);
        due("differences", x.compare(4, 5), 2);
    }

    /** Which cells are NULL, and nothing else, is not the same; the prints are. */
    private void unlikeThoughOfOnePrintByNull() {
        begin("Two nodes are LIKE by rows, not by a short print of them: NULL and 0");
        for (int table = 0; table <= 1; table++) {
            x.make(table, 5);
            for (int column = 0; column < 5; column++) {
                x.put(table, 1, column, 0, table == 1 && column == 0);
                x.put(table, 3, column, 0, table == 0);
            }
        }
        dueCells(0, 1, 0, 0, 0, 0, 0);
        dueCells(0, 3, NOTHING, NOTHING, NOTHING, NOTHING, NOTHING);
        dueCells(1, 1, NOTHING, 0, 0, 0, 0);
        dueCells(1, 3, 0, 0, 0, 0, 0);
        due("differences", x.compare(0, 1), 2);
    }

    private void likeEmptyNodesOfAnyColumns() {
        begin("LIKE: without rows there is nothing to tell them apart");
        for (int columns = 1; columns <= 6; columns++) {
            due("make", x.make(0, columns), 0);
        }
        dueStore(1, 0);
    }

    private void likeNodesInTwoPlaces() {
        begin("like rows or like nodes below, in the same order");
        for (int key = 1; key <= 5; key++) {
            set(0, key, key);
        }
        int before = x.count(0);
        for (int key : new int[] {5, 3, 1, 2, 4}) {
            set(1, key, key);
        }
        due("addresses", x.address(1), x.address(0));
        due("differences", x.compare(0, 1), 0);
        // On the way [3 5], [1 3 5] and the node above [1 2] and [3 5] were new.
        due("count(0)", x.count(0), before + 3);
    }

    private void addressOfNoNumberButTheHeight() {
        begin("h = 1469598103934665603, then for each number: its height");
        due("empty", x.address(0), 4953163356653287321L);
        x.make(0, 6);
        due("empty, of six columns", x.address(0), 4953163356653287321L);
    }

    private void addressTakesIntsWithTheirSign() {
        begin("(longs that wrap; ints with their sign)");
        setNull(0, -1);
        due("-1: NULL", x.address(0), 6248837601179650646L);
        set(1, 1, -1);
        due("1: -1", x.address(1), -2931336072417580900L);
        set(2, LEAST, GREATEST);
        due("least: greatest", x.address(2), 1869564652843741251L);
        set(3, GREATEST, LEAST);
        due("greatest: least", x.address(3), 2077620840038970187L);
    }

    private void addressTellsNullFromZero() {
        begin("of each cell 1 and the cell, or 0 for NULL");
        set(0, 1, 0);
        due("1: 0", x.address(0), 2931334972905952689L);
        x.put(0, 1, 0, 0, true);
        due("1: NULL", x.address(0), -6250750751412359336L);
    }

    private void addressTakesEachCell() {
        begin("of each row its key, and of each cell");
        x.make(0, 3);
        x.put(0, 3, 1, 7, false);
        due("3: NULL 7 NULL", x.address(0), 8574117594427421446L);
        x.put(0, 1, 2, -2, false);
        due("and 1: NULL NULL -2", x.address(0), Model.mix(0, 1, 0, 0, 1, -2, 3, 0, 1, 7, 0));
        x.make(1, 6);
        for (int column = 0; column < 6; column++) {
            x.put(1, 3, column, 10 + column, false);
        }
        due("3: 10 .. 15", x.address(1), Model.mix(0, 3, 1, 10, 1, 11, 1, 12, 1, 13, 1, 14, 1, 15));
    }

    private void addressOfNodesBelow() {
        begin("or the address of each node below");
        set(0, 2, 5);
        set(0, 3, 6);
        due("[[2: 5] [3: 6]]", x.address(0), -7792730599922387378L);
        set(1, 4, 5);
        set(1, 5, 6);
        due("[[[4: 5]] [[5: 6]]]", x.address(1), -7646934090201298885L);
    }

    private void storeHasOneNodeAtFirst() {
        begin("at first that of the six tables, one");
        dueStore(1, 0);
        due("sweep", x.sweep(), 0);
        dueStore(1, 0);
    }

    private void storeKeepsOneOfLikeNodes() {
        begin("THE STORE has nodes, of like ones one");
        due("a row", set(0, 1, 5), 1);
        for (int table = 1; table <= 5; table++) {
            due("the same in table " + table, set(table, 1, 5), 0);
        }
        dueStore(2, 2);
    }

    private void storeHoldsSixtyThousand() {
        begin("with a size of at most 60000 in all");
        fillWideAllBut(2);
        due("a leaf of size 2", set(3, 1, 5), 1);
        due("count(1)", x.count(1), 60000);
    }

    private void storeHoldsNoMore() {
        begin("with a size of at most 60000 in all, and not 60001");
        fillWideAllBut(1);
        due("a leaf of size 2", set(3, 1, 5), FULL);
        due("count(1)", x.count(1), 59999);
    }

    private void changeWritesNoneAtAll() {
        begin("(perhaps none at all");
        x.make(0, 2);
        due("a cell", x.put(0, 2, 0, 5, false), 1);
        due("the same cell", x.put(0, 2, 0, 5, false), 0);
        due("NULL where NULL is", x.put(0, 2, 1, 5, true), 0);
        dueStore(2, 3);
    }

    private void nodesThatNoTableHasAreThere() {
        begin("like ones that no table has still count as there)");
        due("5", set(0, 1, 5), 1);
        due("6", set(0, 1, 6), 1);
        due("5 again", set(0, 1, 5), 0);
        due("none", x.remove(0, 1), 0);
        due("6 in another table", set(5, 1, 6), 0);
        due("two nodes and one above", set(0, 2, 0) + set(0, 3, 0), 3);
        x.make(0, 1);
        due("both again", set(0, 2, 0) + set(0, 3, 0), 0);
    }

    private void nodesStayTillSweep() {
        begin("nodes that no table has any more stay till sweep");
        set(0, 2, 0);
        set(0, 3, 0);
        x.make(0, 1);
        dueStore(4, 6);
        x.copy(0, 1);
        x.compare(0, 1);
        dueStore(4, 6);
        due("sweep", x.sweep(), 3);
        dueStore(1, 0);
        due("written anew", set(0, 2, 0) + set(0, 3, 0), 3);
    }
}
