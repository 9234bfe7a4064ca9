import java.util.List;

/** Promises 6 to 13, sentence by sentence: what can be asked, compared, swept and counted. */
public final class AnswersTest extends Scene {
    public static void main(String[] args) {
        AnswersTest test = new AnswersTest();
        test.get();
        test.measure();
        test.address();
        test.row();
        test.compare();
        test.difference();
        test.sweep();
        test.count();
        test.askingChangesNothing();
        test.checks.end("AnswersTest");
    }

    private void get() {
        getAnswersACell();
        getAnswersNull();
        getFindsNoRow();
        getRefusesTables();
        getRefusesColumns();
        getRefusesColumnsOfNoRow();
    }

    private void measure() {
        measureRows();
        measureColumns();
        measureHeight();
        measureNodes();
        measureRefusesWhats();
        measureRefusesTables();
    }

    private void address() {
        addressIsOfTheGreatestNode();
        addressIsOfTheRowsAlone();
        addressOfNoTable();
    }

    private void row() {
        rowsRise();
        rowIsNoneTooSmall();
        rowIsNoneTooLarge();
        rowIsNoneInNoTable();
        rowOf300();
    }

    private void compare() {
        compareFindsRowsInOneAlone();
        compareFindsRowsNotAlike();
        compareTellsNullFromZero();
        compareFindsNone();
        compareLooksPastWhatIsShared();
        compareFindsAll();
        compareRefusesTables();
        compareRefusesColumns();
        compareAnswersTheSameAgain();
    }

    private void difference() {
        differencesRise();
        differenceTellsTheSide();
        differenceTellsTheCells();
        differenceTellsNoCellsOfOneAlone();
        differenceIsNoneAtFirst();
        differenceIsNoneTooSmall();
        differenceIsNoneTooLarge();
        differenceIsNoneForOtherWhats();
        differencesAreTheLastComparisons();
        differencesStayWhenTablesChange();
    }

    private void sweep() {
        sweepFindsNothing();
        sweepAnswersHowMany();
        sweepLeavesWhatATableHas();
        sweepTakesTheEmptyNode();
        sweepLeavesTheEmptyNode();
        sweepTakesALargeTree();
        sweepChangesNoTable();
    }

    private void count() {
        countNodes();
        countSize();
        countRefuses();
        countOfAFullStore();
    }

    private void getAnswersACell() {
        begin("get: A cell");
        x.make(0, 6);
        int[] keys = {LEAST, -1944, -3, 0, 1, 2, 4, 241, 660, GREATEST};
        for (int key : keys) {
            x.put(0, key, 0, key, false);
            x.put(0, key, 5, ~key, false);
        }
        for (int key : keys) {
            dueCells(0, key, key, NOTHING, NOTHING, NOTHING, NOTHING, ~key);
        }
    }

    private void getAnswersNull() {
        begin("get: 2^40 if it is NULL");
        x.make(0, 2);
        x.put(0, 1, 1, 0, false);
        dueCells(0, 1, 1099511627776L, 0);
        x.put(0, 1, 0, 0, false);
        x.put(0, 1, 1, 0, true);
        dueCells(0, 1, 0, 1099511627776L);
    }

    private void getFindsNoRow() {
        begin("get: 2^40 + NONE if there is no such row");
        due("in an empty table", x.get(0, 0, 0), 1099511627774L);
        for (int key : new int[] {-1944, 0, 2, 4, 660}) {
            set(0, key, 0);
        }
        for (int key : new int[] {LEAST, -1945, -1943, -1, 1, 3, 5, 659, 661, GREATEST}) {
            due("get(0, " + key + ", 0)", x.get(0, key, 0), 1099511627774L);
        }
        x.remove(0, 2);
        due("a row that went", x.get(0, 2, 0), 1099511627774L);
        due("a row of another table", x.get(1, 4, 0), 1099511627774L);
    }

    private void getRefusesTables() {
        begin("get: 2^40 + REFUSED if no such table");
        leaveNoTableEmpty();
        for (int table : NO_TABLES) {
            due("get(" + table + ", 1, 0)", x.get(table, 1, 0), 1099511627775L);
        }
    }

    private void getRefusesColumns() {
        begin("get: 2^40 + REFUSED if no such column");
        for (int columns = 1; columns <= 6; columns++) {
            x.make(0, columns);
            set(0, 1, 0);
            for (int column : new int[] {-1, columns, 7, LEAST, GREATEST}) {
                due("get(0, 1, " + column + ") of " + columns, x.get(0, 1, column), 1099511627775L);
            }
        }
        x.make(0, 1);
        set(0, 1, 0);
        due("a column that the table had", x.get(0, 1, 5), 1099511627775L);
    }

    private void getRefusesColumnsOfNoRow() {
        begin("get: 2^40 + REFUSED if no such column, whatever the row");
        due("get(0, 1, 1)", x.get(0, 1, 1), 1099511627775L);
        due("get(0, 1, -1)", x.get(0, 1, -1), 1099511627775L);
        due("get(6, 1, 1)", x.get(6, 1, 1), 1099511627775L);
    }

    private void measureRows() {
        begin("measure: what 0: its rows");
        due("none", x.measure(0, 0), 0);
        for (int rows = 1; rows <= 300; rows++) {
            set(0, ANY[rows - 1], 0);
            if (rows % 20 <= 1) {
                due("rows", x.measure(0, 0), rows);
            }
        }
        set(0, ANY[300], 0);
        due("not 301", x.measure(0, 0), 300);
        x.remove(0, ANY[0]);
        due("one less", x.measure(0, 0), 299);
    }

    private void measureColumns() {
        begin("measure: what 1: its columns");
        due("at first", x.measure(5, 1), 1);
        for (int columns = 6; columns >= 1; columns--) {
            x.make(5, columns);
            due("without rows", x.measure(5, 1), columns);
            set(5, 1, 0);
            due("with a row", x.measure(5, 1), columns);
        }
    }

    private void measureHeight() {
        begin("measure: what 2: the height of its greatest node");
        due("empty", x.measure(0, 2), 0);
        int[] keys = {1, 2, 4, -1944, 241, 660};
        for (int height = 0; height <= 5; height++) {
            x.make(0, 1);
            set(0, keys[height], 0);
            due("one row", x.measure(0, 2), 0);
            set(0, 5000000, 0);
            due("two rows", x.measure(0, 2), height);
        }
        x.remove(0, 660);
        due("one row again", x.measure(0, 2), 0);
    }

    private void measureNodes() {
        begin("measure: what 3: how many different nodes it has");
        due("empty", x.measure(0, 3), 1);
        for (int rows = 1; rows <= 300; rows++) {
            set(0, TOP[rows - 1], 0);
            if (rows % 50 <= 1) {
                due("of " + rows + " rows of level 5", x.measure(0, 3), rows == 1 ? 1 : 5 * rows + 1);
            }
        }
        due("asked again", x.measure(0, 3), 1501);
        set(1, TOP[0], 0);
        due("of a table that shares a leaf", x.measure(1, 3), 1);
    }

    private void measureRefusesWhats() {
        begin("measure: REFUSED for others");
        set(3, 1, 0);
        for (int what : new int[] {-1, 4, 5, LEAST, GREATEST}) {
            due("measure(3, " + what + ")", x.measure(3, what), REFUSED);
        }
    }

    private void measureRefusesTables() {
        begin("measure: Of a table, and REFUSED for others");
        for (int table : NO_TABLES) {
            for (int what = -1; what <= 4; what++) {
                due("measure(" + table + ", " + what + ")", x.measure(table, what), REFUSED);
            }
        }
    }

    private void addressIsOfTheGreatestNode() {
        begin("The address of a table's greatest node");
        x.make(0, 2);
        due("empty", x.address(0), 4953163356653287321L);
        x.put(0, -3, 1, -7, false);
        due("a row", x.address(0), Model.mix(0, -3, 0, 1, -7));
        x.put(0, -3, 0, 0, false);
        due("of 0 and -7", x.address(0), Model.mix(0, -3, 1, 0, 1, -7));
        x.put(0, 2, 0, LEAST, false);
        long first = Model.mix(0, -3, 1, 0, 1, -7, 2, 1, LEAST, 0);
        due("two rows", x.address(0), first);
        x.put(0, 3, 0, 0, true);
        long second = Model.mix(0, 3, 0, 0);
        due("two leaves", x.address(0), Model.mix(1, first, second));
        due("asked again", x.address(0), Model.mix(1, first, second));
        due("of another table", x.address(5), 4953163356653287321L);
    }

    private void addressIsOfTheRowsAlone() {
        begin("trees whose shape the rows alone decide");
        for (int key = 0; key < 40; key++) {
            set(0, key * 11, key);
        }
        for (int key = 39; key >= 0; key--) {
            set(1, key * 11, -1);
            set(1, key * 11 + 1, key);
        }
        for (int key = 0; key < 40; key++) {
            set(1, key * 11, key);
            x.remove(1, key * 11 + 1);
        }
        due("address", x.address(1), x.address(0));
        due("compare", x.compare(0, 1), 0);
        dueMeasures(1, 40, 1, x.measure(0, 2), x.measure(0, 3));
    }

    private void addressOfNoTable() {
        begin("address: 0 if there is no such table");
        for (int table : NO_TABLES) {
            due("address(" + table + ")", x.address(table), 0);
        }
    }

    private void rowsRise() {
        begin("The key of row k of a table, from 0, by rising keys");
        int[] keys = {LEAST, -1944, -3, 0, 1, 2, 3, 4, 241, 660, 1663, GREATEST};
        for (int i = 0; i < keys.length; i++) {
            set(5, keys[i * 5 % keys.length], i);
        }
        for (int i = 0; i < keys.length; i++) {
            due("row(5, " + i + ")", x.row(5, i), keys[i]);
        }
        x.remove(5, LEAST);
        due("row(5, 0)", x.row(5, 0), -1944);
    }

    private void rowIsNoneTooSmall() {
        begin("row: 2^40 if there is none, below the first");
        set(0, 1, 0);
        due("row(0, -1)", x.row(0, -1), 1099511627776L);
        due("row(0, least)", x.row(0, LEAST), 1099511627776L);
    }

    private void rowIsNoneTooLarge() {
        begin("row: 2^40 if there is none, beyond the last");
        due("row(0, 0) of an empty table", x.row(0, 0), 1099511627776L);
        for (int key = 1; key <= 5; key++) {
            set(0, key, 0);
            due("the last", x.row(0, key - 1), key);
            due("one beyond", x.row(0, key), 1099511627776L);
        }
        due("row(0, 300)", x.row(0, 300), 1099511627776L);
        due("row(0, greatest)", x.row(0, GREATEST), 1099511627776L);
        x.remove(0, 5);
        due("a row that went", x.row(0, 4), 1099511627776L);
    }

    private void rowIsNoneInNoTable() {
        begin("row: 2^40 if there is none, as there is no table");
        leaveNoTableEmpty();
        for (int table : NO_TABLES) {
            due("row(" + table + ", 0)", x.row(table, 0), 1099511627776L);
        }
    }

    private void rowOf300() {
        begin("row k of a table of 300");
        setRows(0, ANY, 300);
        due("the first", x.row(0, 0), ANY[0]);
        for (int k = 149; k < 160; k++) {
            due("one between", x.row(0, k), ANY[k]);
        }
        due("the last", x.row(0, 299), ANY[299]);
        due("one beyond", x.row(0, 300), NOTHING);
    }

    private void compareFindsRowsInOneAlone() {
        begin("How many keys have rows in one of two tables alone");
        set(0, 1, 5);
        set(0, 3, 5);
        due("with an empty one", x.compare(0, 1), 2);
        due("of an empty one", x.compare(1, 0), 2);
        set(1, 3, 5);
        due("one alone", x.compare(0, 1), 1);
        set(1, 4, 5);
        due("one alone in each", x.compare(0, 1), 2);
        due("the other way", x.compare(1, 0), 2);
    }

    private void compareFindsRowsNotAlike() {
        begin("or rows that are not alike");
        x.make(0, 6);
        x.put(0, 1, 0, 5, false);
        x.put(0, 3, 0, 5, false);
        x.copy(1, 0);
        for (int column = 0; column < 6; column++) {
            x.put(1, 1, column, 9, false);
            due("one key, however many cells", x.compare(0, 1), 1);
        }
        x.put(1, 3, 5, 9, false);
        due("two keys", x.compare(0, 1), 2);
        due("the other way", x.compare(1, 0), 2);
    }

    private void compareTellsNullFromZero() {
        begin("rows that are not alike: NULL and 0");
        setNull(0, 1);
        set(1, 1, 0);
        setNull(2, 1);
        due("NULL and 0", x.compare(0, 1), 1);
        dueDifference(0, 1, 2, 1);
        due("NULL and NULL", x.compare(0, 2), 0);
        set(0, 1, 0);
        due("0 and 0", x.compare(0, 1), 0);
    }

    private void compareFindsNone() {
        begin("How many keys: none");
        due("both empty", x.compare(0, 1), 0);
        due("both empty, one and the same", x.compare(5, 5), 0);
        set(0, 1, 5);
        set(1, 1, 5);
        due("like rows", x.compare(0, 1), 0);
        due("a table with itself", x.compare(0, 0), 0);
        dueNoDifference(0);
        due("with another", x.compare(0, 2), 1);
        due("a table with itself", x.compare(0, 0), 0);
        dueNoDifference(0);
    }

    private void compareLooksPastWhatIsShared() {
        begin("what two tables share is passed over when they are compared");
        x.make(0, 3);
        for (int key = -40; key < 40; key++) {
            x.put(0, key, 0, key, false);
        }
        x.copy(1, 0);
        due("a copy", x.compare(0, 1), 0);
        x.remove(1, -7);
        x.put(1, 1000, 0, 0, false);
        x.put(1, 0, 0, 9, false);
        x.put(1, 0, 2, 9, false);
        x.put(1, 5, 1, 0, false);
        x.put(1, 6, 0, 7, false);
        x.put(1, 6, 0, 6, false);
        due("compare(0, 1)", x.compare(0, 1), 4);
        dueDifference(0, -7, 1, 0);
        dueDifference(1, 0, 2, 5);
        dueDifference(2, 5, 2, 2);
        dueDifference(3, 1000, 0, 0);
        dueNoDifference(4);
        due("compare(1, 0)", x.compare(1, 0), 4);
        dueDifference(0, -7, 0, 0);
        dueDifference(1, 0, 2, 5);
        dueDifference(2, 5, 2, 2);
        dueDifference(3, 1000, 1, 0);
    }

    /** As many as a run of 512 calls can make: more than a table has rows. */
    private void compareFindsAll() {
        begin("How many keys: all of them");
        for (int i = 0; i < 250; i++) {
            set(0, 2 * i, i);
            set(1, 2 * i + 1, i);
        }
        due("compare(0, 1)", x.compare(0, 1), 500);
        dueDifference(0, 0, 1, 0);
        dueDifference(499, 499, 0, 0);
        due("difference(300, 0)", x.difference(300, 0), 300);
        due("difference(301, 1)", x.difference(301, 1), 0);
        due("difference(500, 0)", x.difference(500, 0), NOTHING);
    }

    private void compareRefusesTables() {
        begin("compare: REFUSED: one of them is none (the differences stay)");
        furnish();
        List<Long> before = state();
        due("there are differences", x.difference(1, 0), 2);
        for (int table : NO_TABLES) {
            due("compare(" + table + ", 1)", x.compare(table, 1), REFUSED);
            due("compare(1, " + table + ")", x.compare(1, table), REFUSED);
            due("compare(" + table + ", itself)", x.compare(table, table), REFUSED);
        }
        dueUnchanged(before);
    }

    private void compareRefusesColumns() {
        begin("compare: or they have not as many columns (the differences stay)");
        furnish();
        for (int columns = 1; columns <= 6; columns++) {
            x.make(4, columns);
            due("rows and none", x.compare(0, 4), columns == 2 ? 2 : REFUSED);
            due("none and rows", x.compare(4, 0), columns == 2 ? 2 : REFUSED);
            due("none and none", x.compare(4, 5), columns == 1 ? 0 : REFUSED);
            x.compare(0, 1);
        }
        List<Long> before = state();
        due("of two columns and six", x.compare(0, 4), REFUSED);
        due("of six columns and two", x.compare(4, 0), REFUSED);
        due("of six columns and one", x.compare(4, 5), REFUSED);
        dueUnchanged(before);
        dueDifference(0, 1, 2, 1);
        dueDifference(1, 2, 1, 0);
    }

    private void compareAnswersTheSameAgain() {
        begin("compare: these are the DIFFERENCES then");
        furnish();
        for (int time = 0; time < 3; time++) {
            due("compare(0, 1)", x.compare(0, 1), 2);
            dueDifference(0, 1, 2, 1);
            dueDifference(1, 2, 1, 0);
            dueNoDifference(2);
        }
    }

    private void differencesRise() {
        begin("Of difference k, by rising keys, what 0: the key");
        int[] keys = {LEAST, -1944, -3, -1, 0, 1, 2, 660, GREATEST};
        for (int i = 0; i < keys.length; i++) {
            int at = i * 4 % keys.length;
            set(at % 2, keys[at], 1);
        }
        due("compare(0, 1)", x.compare(0, 1), keys.length);
        for (int k = 0; k < keys.length; k++) {
            dueDifference(k, keys[k], k % 2 == 0 ? 1 : 0, 0);
        }
    }

    private void differenceTellsTheSide() {
        begin("1: 0 if the row is in the second table alone, 1 in the first alone, 2 in both");
        set(3, 1, 0);
        set(5, 3, 0);
        set(3, 5, 0);
        set(5, 5, 1);
        x.compare(3, 5);
        due("in the first alone", x.difference(0, 1), 1);
        due("in the second alone", x.difference(1, 1), 0);
        due("in both", x.difference(2, 1), 2);
        x.compare(5, 3);
        due("now in the second alone", x.difference(0, 1), 0);
        due("now in the first alone", x.difference(1, 1), 1);
        due("in both", x.difference(2, 1), 2);
    }

    private void differenceTellsTheCells() {
        begin("2: 2^0 for the cell of column 0 if it is not the same, 2^1 for that of column 1, ..");
        x.make(0, 6);
        for (int column = 0; column < 6; column++) {
            x.put(0, 1, column, 7, false);
        }
        for (int column = 0; column < 6; column++) {
            x.copy(1, 0);
            x.put(1, 1, column, 8, false);
            x.compare(0, 1);
            dueDifference(0, 1, 2, 1 << column);
            x.put(1, 1, column, 8, true);
            x.compare(1, 0);
            dueDifference(0, 1, 2, 1 << column);
        }
        x.copy(1, 0);
        for (int column = 0; column < 6; column++) {
            x.put(1, 1, column, column, column % 2 == 0);
            x.compare(0, 1);
            dueDifference(0, 1, 2, (2 << column) - 1);
        }
    }

    private void differenceTellsNoCellsOfOneAlone() {
        begin("0 if not in both");
        x.make(0, 6);
        x.make(1, 6);
        x.put(0, 1, 5, 7, false);
        x.compare(0, 1);
        dueDifference(0, 1, 1, 0);
        x.compare(1, 0);
        dueDifference(0, 1, 0, 0);
    }

    private void differenceIsNoneAtFirst() {
        begin("2^40 if there is none, before any comparison");
        set(0, 1, 1);
        dueNoDifference(0);
        dueNoDifference(-1);
        dueNoDifference(1);
    }

    private void differenceIsNoneTooSmall() {
        begin("2^40 if there is none, below the first");
        set(0, 1, 1);
        x.compare(0, 1);
        dueNoDifference(-1);
        dueNoDifference(LEAST);
    }

    private void differenceIsNoneTooLarge() {
        begin("2^40 if there is none, beyond the last");
        furnish();
        dueDifference(1, 2, 1, 0);
        for (int k : new int[] {2, 3, 299, 300, 599, 600, GREATEST}) {
            dueNoDifference(k);
        }
    }

    private void differenceIsNoneForOtherWhats() {
        begin("2^40 if there is none, and for another what");
        furnish();
        for (int what : new int[] {-1, 3, 4, LEAST, GREATEST}) {
            due("difference(0, " + what + ")", x.difference(0, what), 1099511627776L);
            due("difference(1, " + what + ")", x.difference(1, what), 1099511627776L);
            due("difference(2, " + what + ")", x.difference(2, what), 1099511627776L);
            due("difference(-1, " + what + ")", x.difference(-1, what), 1099511627776L);
        }
    }

    private void differencesAreTheLastComparisons() {
        begin("these are the DIFFERENCES then, and no more those before");
        furnish();
        dueDifference(1, 2, 1, 0);
        set(3, 9, 9);
        due("one", x.compare(4, 3), 1);
        dueDifference(0, 9, 0, 0);
        dueNoDifference(1);
        due("none", x.compare(4, 5), 0);
        dueNoDifference(0);
    }

    private void differencesStayWhenTablesChange() {
        begin("these are the DIFFERENCES then, whatever the tables are later");
        set(0, 1, 1);
        set(0, 2, 2);
        set(1, 2, 3);
        due("compare(0, 1)", x.compare(0, 1), 2);
        set(0, 2, 3);
        x.remove(0, 1);
        x.copy(1, 0);
        x.make(0, 4);
        x.sweep();
        dueDifference(0, 1, 1, 0);
        dueDifference(1, 2, 2, 1);
        dueNoDifference(2);
        x.make(1, 1);
        x.sweep();
        dueStore(1, 0);
        dueDifference(0, 1, 1, 0);
        dueDifference(1, 2, 2, 1);
    }

    private void sweepFindsNothing() {
        begin("sweep: how many, and it may be none");
        due("a new object's", x.sweep(), 0);
        set(0, 1, 1);
        due("a table's", x.sweep(), 0);
        set(0, 1, 2);
        due("one", x.sweep(), 1);
        due("again", x.sweep(), 0);
        dueStore(2, 2);
    }

    private void sweepAnswersHowMany() {
        begin("Nodes that no table has go: how many");
        set(0, 1, 1);
        set(0, 1, 2);
        set(0, 1, 3);
        due("two that were", x.sweep(), 2);
        dueStore(2, 2);
        due("written anew", set(0, 1, 2), 1);
        set(1, 660, 0);
        set(1, 1663, 0);
        dueStore(3 + 11, 4 + 14);
        x.make(1, 1);
        due("the one that was, and a tree", x.sweep(), 1 + 11);
        dueStore(2, 2);
    }

    private void sweepLeavesWhatATableHas() {
        begin("Nodes that no table has go, and no others");
        set(0, 660, 0);
        set(0, 1663, 0);
        x.copy(5, 0);
        x.make(0, 1);
        due("as table 5 has them", x.sweep(), 0);
        due("nodes of table 5", x.measure(5, 3), 11);
        set(4, 660, 0);
        x.make(5, 1);
        due("all but the leaf that table 4 has", x.sweep(), 10);
        dueCells(4, 660, 0);
        dueStore(2, 2);
        set(3, 660, 0);
        set(3, 1663, 0);
        x.make(4, 1);
        due("the leaf is below in table 3", x.sweep(), 0);
        dueStore(12, 14);
    }

    private void sweepTakesTheEmptyNode() {
        begin("Nodes that no table has go: the empty one too");
        leaveNoTableEmpty();
        due("sweep", x.sweep(), 1);
        dueStore(1, 2);
        due("written anew", x.remove(0, 1), 1);
        dueStore(2, 2);
    }

    private void sweepLeavesTheEmptyNode() {
        begin("Nodes that no table has go: not the empty one of the last table");
        for (int table = 0; table <= 4; table++) {
            set(table, 1, 0);
        }
        due("sweep", x.sweep(), 0);
        dueStore(2, 2);
        due("still there", x.make(0, 3), 0);
    }

    private void sweepTakesALargeTree() {
        begin("Nodes that no table has go: all of a tree of 300 rows");
        for (int i = 0; i < 300; i++) {
            set(0, TOP[i], 0);
        }
        int before = x.count(0);
        due("all but the table's and the empty one", x.sweep(), before - 1501 - 1);
        dueStore(1501 + 1, 300 * 2 + 4 * 300 + 300);
        due("height", x.measure(0, 2), 5);
        x.make(0, 1);
        due("the table's", x.sweep(), 1501);
        dueStore(1, 0);
    }

    private void sweepChangesNoTable() {
        begin("sweep changes no table and no differences");
        furnish();
        List<Long> tables = tablesState();
        List<Long> differences = differencesState();
        dueTrue("sweep", x.sweep() > 0);
        dueSame(tablesState(), tables);
        dueSame(differencesState(), differences);
        dueCells(0, 1, NOTHING, 5);
        dueCells(1, 1, 7, 5);
    }

    private void countNodes() {
        begin("count: What 0: nodes in the store");
        due("at first", x.count(0), 1);
        set(0, 660, 1);
        due("with a leaf", x.count(0), 2);
        set(0, 1663, 1);
        due("with a tree", x.count(0), 12);
        x.copy(1, 0);
        due("with a copy", x.count(0), 12);
        x.remove(1, 660);
        due("with a leaf that is below elsewhere", x.count(0), 12);
        x.make(0, 1);
        due("without the tree", x.count(0), 12);
        x.sweep();
        due("swept", x.count(0), 2);
    }

    private void countSize() {
        begin("count: 1: their size");
        due("at first", x.count(1), 0);
        x.make(0, 6);
        set(0, 660, 1);
        due("with a leaf", x.count(1), 7);
        set(0, 1663, 1);
        due("with a tree", x.count(1), 7 + 7 + 4 * 2 + 2);
        x.copy(1, 0);
        due("with a copy", x.count(1), 24);
        x.make(1, 1);
        x.remove(0, 660);
        due("without the tree", x.count(1), 24);
        x.sweep();
        due("swept", x.count(1), 7);
    }

    private void countRefuses() {
        begin("count: REFUSED for others");
        for (int what : new int[] {-1, 2, 3, LEAST, GREATEST}) {
            due("count(" + what + ")", x.count(what), REFUSED);
        }
    }

    private void countOfAFullStore() {
        begin("count of a store that is full");
        fillWideAllBut(0);
        int nodes = x.count(0);
        due("put", set(3, 1, 77), FULL);
        dueStore(nodes, 60000);
        int gone = x.sweep();
        due("nodes", x.count(0), nodes - gone);
        due("the leaves of tables 0, 1 and 2, and the empty node", x.count(0), 4);
    }

    private void askingChangesNothing() {
        begin("get, measure, address, row, difference and count change nothing");
        furnish();
        List<Long> before = state();
        for (int table = -1; table <= 6; table++) {
            x.get(table, 1, 0);
            x.get(table, 99, 1);
            x.measure(table, 3);
            x.address(table);
            x.row(table, 0);
            x.difference(table, 0);
            x.count(table);
        }
        dueUnchanged(before);
    }
}
