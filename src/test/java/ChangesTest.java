import java.util.List;

/** Promises 1 to 5, sentence by sentence: a new object, make, put, remove and copy. */
public final class ChangesTest extends Scene {
    public static void main(String[] args) {
        ChangesTest test = new ChangesTest();
        test.newObject();
        test.make();
        test.put();
        test.putWithoutRoom();
        test.remove();
        test.copy();
        test.checks.end("ChangesTest");
    }

    private void newObject() {
        newObjectIsAsTheTermsSay();
        newObjectIsApartFromOthers();
    }

    private void make() {
        makeLeavesNoRows();
        makeSetsTheColumns();
        makeAnswersNodesWritten();
        makeRefusesTables();
        makeRefusesColumns();
        makeFindsRoomForTheEmptyNode();
    }

    private void put() {
        putSetsACell();
        putMakesANewRow();
        putSetsNull();
        putTakesNoValueForNull();
        putAnswersNodesWritten();
        putRefusesTables();
        putRefusesColumns();
        putTakesThe300thRow();
        putIsFullAtThe301stRow();
        putStillChangesOneOf300Rows();
        putTakesARowWhereOneWent();
        putRefusesBeforeItIsFull();
    }

    private void putWithoutRoom() {
        putIsFullWithoutRoom();
        putNeedsRoomForAllThatItWrites();
        putFindsJustEnoughRoom();
        putNeedsNoRoomForWhatIsThere();
        putFindsRoomAfterSweep();
    }

    private void remove() {
        removeTakesARow();
        removeTakesTheFirstAndTheLast();
        removeAnswersNodesWritten();
        removeLeavesATableEmpty();
        removeRefusesTables();
        removeFindsNoRow();
        removeIsFullWithoutRoom();
        removeFindsJustEnoughRoom();
        removeNeedsNoRoomForWhatIsThere();
        removeFindsRoomForTheEmptyNode();
    }

    private void copy() {
        copyMakesATableAsAnother();
        copyTakesTheColumns();
        copyLeavesTheTablesApart();
        copyOntoItself();
        copyOfAnEmptyTable();
        copyOf300Rows();
        copyWritesNothing();
        copyRefuses();
    }

    private void newObjectIsAsTheTermsSay() {
        begin("makes an object in the state that the terms give");
        for (int table = 0; table <= 5; table++) {
            dueEmpty(table, 1);
            due("address", x.address(table), 4953163356653287321L);
            due("row", x.row(table, 0), NOTHING);
            dueCells(table, 0, NOTHING + NONE, NOTHING + REFUSED);
        }
        dueStore(1, 0);
        dueNoDifference(0);
        due("sweep", x.sweep(), 0);
    }

    private void newObjectIsApartFromOthers() {
        begin("TwinTrees() makes an object");
        furnish();
        TwinTrees other = new TwinTrees();
        due("another object's rows", other.measure(0, 0), 0);
        due("another object's columns", other.measure(0, 1), 1);
        due("another object's nodes", other.count(0), 1);
        due("another object's size", other.count(1), 0);
        due("another object's differences", other.difference(0, 0), NOTHING);
        due("put in another object", other.put(0, 1, 0, 9, false), 1);
        dueCells(0, 1, NOTHING, 5);
    }

    private void makeLeavesNoRows() {
        begin("A table has no rows");
        set(0, 1, 5);
        set(1, 1, 5);
        set(0, 2, 5);
        set(0, 3, 5);
        due("make(0, 1)", x.make(0, 1), 0);
        dueEmpty(0, 1);
        dueCells(0, 1, NOTHING + NONE);
        due("row", x.row(0, 0), NOTHING);
        dueCells(1, 1, 5);
        due("make(0, 1) of an empty one", x.make(0, 1), 0);
        dueEmpty(0, 1);
        setRows(0, ANY, 300);
        x.make(0, 1);
        due("after 300 rows", set(0, ANY[300], 7), 1);
        due("rows", x.measure(0, 0), 1);
    }

    private void makeSetsTheColumns() {
        begin("and so many columns, then");
        for (int columns : new int[] {6, 1, 2, 3, 4, 5}) {
            due("make(5, " + columns + ")", x.make(5, columns), 0);
            dueEmpty(5, columns);
            due("put in the last one", x.put(5, 1, columns - 1, 7, false), 1);
            due("put in one beyond", x.put(5, 1, columns, 7, false), REFUSED);
            due("columns of another table", x.measure(4, 1), 1);
        }
    }

    private void makeAnswersNodesWritten() {
        begin("make: how many nodes it writes");
        leaveNoTableEmpty();
        due("sweep", x.sweep(), 1);
        dueStore(1, 2);
        due("the empty node", x.make(3, 2), 1);
        due("which is there now", x.make(4, 4), 0);
        dueStore(2, 2);
    }

    private void makeRefusesTables() {
        begin("make: REFUSED: there is no such table");
        furnish();
        List<Long> before = state();
        for (int table : NO_TABLES) {
            due("make(" + table + ", 1)", x.make(table, 1), REFUSED);
            due("make(" + table + ", 0)", x.make(table, 0), REFUSED);
        }
        dueUnchanged(before);
    }

    private void makeRefusesColumns() {
        begin("make: REFUSED: or columns are not 1 .. 6");
        furnish();
        List<Long> before = state();
        for (int columns : new int[] {0, 7, -1, 8, LEAST, GREATEST}) {
            due("make(0, " + columns + ")", x.make(0, columns), REFUSED);
        }
        dueUnchanged(before);
        dueCells(0, 1, NOTHING, 5);
    }

    /** The empty node has size 0, so that no store is too full for it. */
    private void makeFindsRoomForTheEmptyNode() {
        begin("make: FULL: no room for them");
        leaveNoTableEmpty();
        x.sweep();
        fillAllBut(0);
        int nodes = x.count(0);
        due("make(5, 3)", x.make(5, 3), 1);
        dueEmpty(5, 3);
        dueStore(nodes + 1, 60000);
        due("make(0, 6)", x.make(0, 6), 0);
        dueEmpty(0, 6);
        dueStore(nodes + 1, 60000);
    }

    private void putSetsACell() {
        begin("The cell of a row is a value");
        x.make(0, 6);
        for (int column = 0; column < 6; column++) {
            due("put", x.put(0, 5, column, column, false), 1);
        }
        dueCells(0, 5, 0, 1, 2, 3, 4, 5);
        due("the first one", x.put(0, 5, 0, LEAST, false), 1);
        due("the last one", x.put(0, 5, 5, GREATEST, false), 1);
        dueCells(0, 5, LEAST, 1, 2, 3, 4, GREATEST);
        due("rows", x.measure(0, 0), 1);
    }

    private void putMakesANewRow() {
        begin("(a new one, others NULL, if there is none with this key)");
        x.make(0, 3);
        due("in the middle column", x.put(0, 5, 1, 42, false), 1);
        dueCells(0, 5, NOTHING, 42, NOTHING);
        due("before it", x.put(0, LEAST, 0, 43, false), 2);
        dueCells(0, LEAST, 43, NOTHING, NOTHING);
        due("behind it", x.put(0, GREATEST, 2, 44, false), 2);
        dueCells(0, GREATEST, NOTHING, NOTHING, 44);
        due("rows", x.measure(0, 0), 3);
        x.remove(0, 5);
        x.put(0, 5, 0, 1, false);
        dueCells(0, 5, 1, NOTHING, NOTHING);
    }

    private void putSetsNull() {
        begin("or NULL if none");
        x.make(0, 2);
        x.put(0, 5, 0, 7, false);
        x.put(0, 5, 1, 8, false);
        due("NULL", x.put(0, 5, 0, 7, true), 1);
        dueCells(0, 5, NOTHING, 8);
        due("NULL", x.put(0, 5, 1, 8, true), 1);
        dueCells(0, 5, NOTHING, NOTHING);
        due("a new row", x.put(0, 6, 0, 1, true), 1);
        due("rows", x.measure(0, 0), 2);
        dueCells(0, 6, NOTHING, NOTHING);
        due("7 again", x.put(0, 5, 0, 7, false), 1);
        dueCells(0, 5, 7, NOTHING);
    }

    private void putTakesNoValueForNull() {
        begin("(value does not count then)");
        due("NULL by 0", x.put(0, 1, 0, 0, true), 1);
        long address = x.address(0);
        for (int value : new int[] {1, -1, LEAST, GREATEST}) {
            due("NULL by " + value, x.put(0, 1, 0, value, true), 0);
            due("address", x.address(0), address);
            due("NULL by " + value + " elsewhere", x.put(1, 1, 0, value, true), 0);
        }
        due("compare", x.compare(0, 1), 0);
    }

    private void putAnswersNodesWritten() {
        begin("put: how many nodes are written");
        due("660", set(0, 660, 0), 1);
        due("1663 beside it", set(0, 1663, 1), 10);
        due("the same again", set(0, 1663, 1), 0);
        due("another value", set(0, 1663, 2), 6);
        due("back to what still is there", set(0, 1663, 1), 0);
        due("the same row elsewhere", set(1, 660, 0), 0);
        due("and the other", set(1, 1663, 1), 0);
        due("compare", x.compare(0, 1), 0);
        dueStore(1 + 1 + 10 + 6, 2 + 2 + 4 * 2 + 2 + 2 + 4 + 2);
    }

    private void putRefusesTables() {
        begin("put: REFUSED: no such table");
        furnish();
        List<Long> before = state();
        for (int table : NO_TABLES) {
            due("put in table " + table, set(table, 1, 9), REFUSED);
            due("put of NULL in table " + table, setNull(table, 1), REFUSED);
        }
        dueUnchanged(before);
    }

    private void putRefusesColumns() {
        begin("put: REFUSED: no such column");
        furnish();
        for (int columns = 1; columns <= 6; columns++) {
            x.make(5, columns);
            x.put(5, 1, columns - 1, 9, false);
            List<Long> before = state();
            for (int column : new int[] {-1, columns, LEAST, GREATEST}) {
                due("put in column " + column + " of " + columns, x.put(5, 1, column, 9, false), REFUSED);
            }
            due("a new row", x.put(5, 3, columns, 9, false), REFUSED);
            due("NULL", x.put(5, 1, columns, 9, true), REFUSED);
            // All but the first and the last width would take more calls than an object has.
            if (columns == 1 || columns == 6) {
                dueUnchanged(before);
            }
        }
    }

    private void putTakesThe300thRow() {
        begin("FULL: it would be the 301st row, and not the 300th");
        setRows(2, ANY, 299);
        dueTrue("the 300th", set(2, ANY[299], 7) > 0);
        due("rows", x.measure(2, 0), 300);
        dueCells(2, ANY[299], 7);
    }

    private void putIsFullAtThe301stRow() {
        begin("put: FULL: it would be the 301st row");
        x.copy(0, 2);
        setRows(2, ANY, 300);
        x.compare(2, 0);
        List<Long> before = state();
        due("behind", set(2, ANY[300], 0), FULL);
        due("behind with NULL", setNull(2, GREATEST), FULL);
        due("before", set(2, LEAST, 0), FULL);
        due("before with NULL", setNull(2, 0), FULL);
        dueUnchanged(before);
        due("no such row", x.get(2, ANY[300], 0), NOTHING + NONE);
        due("no 301st", x.row(2, 300), NOTHING);
        due("in another table", set(3, ANY[300], 0), 1);
    }

    private void putStillChangesOneOf300Rows() {
        begin("FULL: it would be the 301st row: a row that is there is none");
        setRows(2, ANY, 300);
        for (int place : new int[] {0, 150, 299}) {
            dueTrue("a value", set(2, ANY[place], -5) > 0);
            dueCells(2, ANY[place], -5);
            dueTrue("NULL", setNull(2, ANY[place]) > 0);
            dueCells(2, ANY[place], NOTHING);
            due("NULL again", setNull(2, ANY[place]), 0);
        }
        due("rows", x.measure(2, 0), 300);
    }

    private void putTakesARowWhereOneWent() {
        begin("FULL: it would be the 301st row, as rows are now");
        setRows(2, ANY, 300);
        due("the 301st", set(2, ANY[300], 1), FULL);
        x.remove(2, ANY[7]);
        dueTrue("where a row has gone", set(2, ANY[300], 1) > 0);
        due("rows", x.measure(2, 0), 300);
        due("the 301st again", set(2, ANY[7], 1), FULL);
    }

    private void putRefusesBeforeItIsFull() {
        begin("put: REFUSED where it would be FULL as well");
        setRows(2, ANY, 300);
        due("column too large", x.put(2, ANY[300], 1, 0, false), REFUSED);
        due("column too small", x.put(2, ANY[300], -1, 0, false), REFUSED);
    }

    private void putIsFullWithoutRoom() {
        begin("put: FULL: there is no room: nothing is changed");
        set(3, 1, 5);
        set(4, 1, 6);
        x.compare(3, 4);
        fillWideAllBut(0);
        List<Long> before = state();
        due("a new row in an empty table", set(5, 1, 77), FULL);
        due("a new row", set(3, 3, 77), FULL);
        due("a cell", set(3, 1, 77), FULL);
        due("NULL", setNull(3, 1), FULL);
        due("a cell of a long leaf", x.put(0, 1, 5, 77, false), FULL);
        due("no such column", x.put(0, 1, 6, 77, false), REFUSED);
        due("once more", set(5, 1, 77), FULL);
        dueUnchanged(before);
        dueCells(3, 1, 5);
        dueCells(5, 1, NOTHING + NONE);
    }

    private void putNeedsRoomForAllThatItWrites() {
        begin("put: FULL: there is no room for one of several nodes");
        set(3, 2, 5);
        fillWideAllBut(3);
        List<Long> before = state();
        due("a leaf of size 2 and a node of size 2 above", set(3, 3, 6), FULL);
        due("again", set(3, 3, 6), FULL);
        dueUnchanged(before);
        // Had the leaf stayed behind, it would need no room here.
        due("the leaf alone", set(4, 3, 6), 1);
        due("another", set(5, 1, 0), FULL);
    }

    private void putFindsJustEnoughRoom() {
        begin("put: FULL: there is no room, and not where it is just enough");
        set(3, 2, 5);
        fillWideAllBut(4);
        due("a leaf of size 2 and a node of size 2 above", set(3, 3, 6), 2);
        due("size", x.count(1), 60000);
        due("one more", set(4, 1, 77), FULL);
    }

    private void putNeedsNoRoomForWhatIsThere() {
        begin("put in a full store: like ones are there");
        set(3, 1, 5);
        set(3, 1, 6);
        fillWideAllBut(0);
        due("the same", set(3, 1, 6), 0);
        due("what was", set(3, 1, 5), 0);
        due("what another has", set(4, 1, 5), 0);
        dueCells(3, 1, 5);
        dueCells(4, 1, 5);
        due("size", x.count(1), 60000);
    }

    private void putFindsRoomAfterSweep() {
        begin("put in a store that was full");
        fillWideAllBut(0);
        due("before", set(3, 1, 77), FULL);
        dueTrue("sweep", x.sweep() > 0);
        int nodes = x.count(0);
        int size = x.count(1);
        due("after", set(3, 1, 77), 1);
        dueStore(nodes + 1, size + 2);
    }

    private void removeTakesARow() {
        begin("A row goes");
        for (int key = 1; key <= 4; key++) {
            set(0, key, key);
        }
        x.copy(1, 0);
        dueMeasures(0, 4, 1, 1, 3);
        due("an end of a leaf", x.remove(0, 2), 1);
        dueMeasures(0, 3, 1, 0, 1);
        dueCells(0, 2, NOTHING + NONE);
        dueCells(0, 1, 1);
        dueCells(0, 3, 3);
        due("row 1", x.row(0, 1), 3);
        dueCells(1, 2, 2);
    }

    private void removeTakesTheFirstAndTheLast() {
        begin("A row goes, the first or the last");
        int[] keys = {LEAST, -1, 0, 1, GREATEST};
        for (int key : keys) {
            set(0, key, 0);
        }
        dueTrue("the last", x.remove(0, GREATEST) >= 0);
        due("the last now", x.row(0, 3), 1);
        due("none behind it", x.row(0, 4), NOTHING);
        dueTrue("the first", x.remove(0, LEAST) >= 0);
        due("the first now", x.row(0, 0), -1);
        due("rows", x.measure(0, 0), 3);
    }

    private void removeAnswersNodesWritten() {
        begin("remove: how many nodes are written");
        for (int key = 1; key <= 4; key++) {
            set(0, key, key);
        }
        due("2: a leaf of 1, 3 and 4 is new", x.remove(0, 2), 1);
        due("1: a leaf of 3 and 4 still is there", x.remove(0, 1), 0);
        due("3: one of 4 is not", x.remove(0, 3), 1);
        due("4, the last", x.remove(0, 4), 0);
        set(1, 660, 0);
        set(1, 1663, 0);
        set(1, 3047, 0);
        due("the middle of three: the greatest node alone", x.remove(1, 1663), 1);
        due("660: a leaf of 3047 is there", x.remove(1, 660), 0);
    }

    private void removeLeavesATableEmpty() {
        begin("A row goes, and it was the only one");
        x.make(0, 4);
        x.put(0, 660, 3, 1, false);
        due("the only one", x.remove(0, 660), 0);
        dueEmpty(0, 4);
        due("address", x.address(0), 4953163356653287321L);
        due("row", x.row(0, 0), NOTHING);
        for (int table = 0; table <= 5; table++) {
            x.make(table, 1);
            set(table, 1, 0);
        }
        x.sweep();
        due("where no table is empty", x.remove(2, 1), 1);
        dueStore(2, 2);
    }

    private void removeRefusesTables() {
        begin("remove: REFUSED: no such table");
        furnish();
        List<Long> before = state();
        for (int table : NO_TABLES) {
            due("remove(" + table + ", 1)", x.remove(table, 1), REFUSED);
        }
        dueUnchanged(before);
    }

    private void removeFindsNoRow() {
        begin("remove: NONE: no such row");
        furnish();
        List<Long> before = state();
        for (int key : new int[] {LEAST, -1, 0, 3, 4, GREATEST}) {
            due("remove(0, " + key + ")", x.remove(0, key), NONE);
        }
        due("of an empty table", x.remove(5, 0), NONE);
        due("that another table has", x.remove(5, 1), NONE);
        due("that went", x.remove(1, 2), NONE);
        dueUnchanged(before);
        due("once", x.remove(0, 1), 1);
        due("twice", x.remove(0, 1), NONE);
    }

    private void removeIsFullWithoutRoom() {
        begin("remove: FULL as for make: no room for them: nothing is changed");
        set(3, 1, 5);
        set(3, 3, 6);
        set(4, 1, 5);
        x.compare(3, 4);
        fillWideAllBut(0);
        List<Long> before = state();
        due("the first of two", x.remove(3, 1), FULL);
        due("the first of a long leaf", x.remove(0, FLAT[0]), FULL);
        due("again", x.remove(3, 1), FULL);
        due("no such row", x.remove(3, 2), NONE);
        due("no such table", x.remove(6, 1), REFUSED);
        dueUnchanged(before);
        dueCells(3, 1, 5);
        x.sweep();
        due("with room", x.remove(3, 1), 1);
        dueCells(3, 1, NOTHING + NONE);
    }

    private void removeFindsJustEnoughRoom() {
        begin("remove: FULL: no room, and not where it is just enough");
        set(3, 1, 5);
        set(3, 3, 6);
        set(3, 5, 7);
        fillWideAllBut(4);
        due("two of three rows remain", x.remove(3, 1), 1);
        due("size", x.count(1), 60000);
        due("one of two remains", x.remove(3, 3), FULL);
        due("rows", x.measure(3, 0), 2);
    }

    private void removeNeedsNoRoomForWhatIsThere() {
        begin("remove in a full store: like ones are there");
        set(3, 1, 5);
        set(3, 3, 6);
        fillWideAllBut(0);
        due("the last: the leaf before it is there", x.remove(3, 3), 0);
        due("the only one", x.remove(3, 1), 0);
        dueEmpty(3, 1);
        due("size", x.count(1), 60000);
    }

    private void removeFindsRoomForTheEmptyNode() {
        begin("remove: FULL as for make: the empty node has size 0");
        leaveNoTableEmpty();
        x.sweep();
        fillAllBut(0);
        due("the only row", x.remove(5, 1), 1);
        dueEmpty(5, 1);
        due("size", x.count(1), 60000);
    }

    private void copyMakesATableAsAnother() {
        begin("A table is as another one then: 0");
        set(4, 9, 9);
        x.make(0, 2);
        x.put(0, 2, 1, 5, false);
        x.put(0, 3, 0, 6, false);
        due("copy(4, 0)", x.copy(4, 0), 0);
        dueMeasures(4, 2, 2, 1, 3);
        dueCells(4, 2, NOTHING, 5);
        dueCells(4, 3, 6, NOTHING);
        dueCells(4, 9, NOTHING + NONE);
        due("address", x.address(4), x.address(0));
        due("compare", x.compare(4, 0), 0);
        due("from the last to the first", x.copy(0, 5), 0);
        dueEmpty(0, 1);
        due("from the first to the last", x.copy(5, 4), 0);
        dueMeasures(5, 2, 2, 1, 3);
    }

    private void copyTakesTheColumns() {
        begin("A table is as another one then: its columns too");
        for (int columns = 1; columns <= 6; columns++) {
            x.make(0, columns);
            x.copy(1, 0);
            due("columns", x.measure(1, 1), columns);
            due("the last one", x.put(1, 1, columns - 1, 0, false), 1);
            due("one beyond", x.put(1, 1, columns, 0, false), REFUSED);
        }
    }

    private void copyLeavesTheTablesApart() {
        begin("A table is as another one then: not later");
        set(0, 2, 5);
        set(0, 3, 6);
        x.copy(1, 0);
        set(1, 3, 7);
        dueCells(0, 3, 6);
        x.remove(0, 2);
        dueCells(1, 2, 5);
        x.make(0, 3);
        dueMeasures(1, 2, 1, 1, 3);
        x.sweep();
        dueCells(1, 2, 5);
        dueCells(1, 3, 7);
    }

    private void copyOntoItself() {
        begin("(or itself)");
        furnish();
        List<Long> before = state();
        for (int table = 0; table <= 5; table++) {
            due("copy", x.copy(table, table), 0);
        }
        dueUnchanged(before);
    }

    private void copyOfAnEmptyTable() {
        begin("A table is as another one then: without rows");
        set(0, 1, 5);
        x.make(1, 6);
        due("copy(0, 1)", x.copy(0, 1), 0);
        dueEmpty(0, 6);
        dueCells(0, 1, NOTHING + NONE);
    }

    private void copyOf300Rows() {
        begin("A table is as another one then: with 300 rows");
        setRows(0, ANY, 300);
        due("copy(1, 0)", x.copy(1, 0), 0);
        due("rows", x.measure(1, 0), 300);
        due("the last", x.row(1, 299), ANY[299]);
        due("the 301st", set(1, ANY[300], 0), FULL);
    }

    private void copyWritesNothing() {
        begin("copy: 0, as all its nodes are there");
        fillWideAllBut(0);
        int nodes = x.count(0);
        due("in a full store", x.copy(5, 0), 0);
        due("address", x.address(5), x.address(0));
        due("over rows", x.copy(0, 4), 0);
        dueStore(nodes, 60000);
    }

    private void copyRefuses() {
        begin("copy: REFUSED: one of them is none");
        furnish();
        List<Long> before = state();
        for (int table : NO_TABLES) {
            due("copy to " + table, x.copy(table, 0), REFUSED);
            due("copy from " + table, x.copy(0, table), REFUSED);
            due("copy from it to itself", x.copy(table, table), REFUSED);
        }
        dueUnchanged(before);
    }
}
