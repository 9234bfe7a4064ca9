/**
 * Tables of rows as trees whose shape the rows alone decide: like parts are kept once,
 * and what two tables share is passed over when they are compared.
 */
public final class TwinTrees {
    public static final int REFUSED = -1, NONE = -2, FULL = -3;

    private static final int TABLES = 6;
    private static final int MOST_COLUMNS = 6;
    private static final int MOST_ROWS = 300;
    private static final int MOST_SIZE = 60000;
    /** No level is above it, so there is one node at this height at the latest. */
    private static final int TOP = 5;
    /** Outside the ints, so that no cell and no key can be mistaken for it. */
    private static final long NOTHING = 1L << 40;

    private static final int BUCKETS = 1024;
    private static final int BUCKET_SHIFT = 22;
    private static final int SPREAD = -1640531535;

    private static final long ADDRESS_START = 1469598103934665603L;
    private static final long ADDRESS_FACTOR = 1099511628211L;

    private static final int IN_SECOND = 0;
    private static final int IN_FIRST = 1;
    private static final int IN_BOTH = 2;

    private final int[] widths = new int[TABLES];
    private final Node[] roots = new Node[TABLES];
    private final Store store = new Store();
    private final Differences differences = new Differences();
    /** The rows that a change or a comparison works on; made once, as calls are many. */
    private final RowList draft = new RowList();
    private final RowList beside = new RowList();
    /** The nodes of one height while a tree grows: never more of them than rows. */
    private final Node[] line = new Node[MOST_ROWS];
    private int lastStamp = 0;

    public TwinTrees() {
        Node empty = store.leafOf(new Row[0], 0, 0);
        store.keepPending();
        for (int table = 0; table < TABLES; table++) {
            widths[table] = 1;
            roots[table] = empty;
        }
    }

    public int make(int table, int columns) {
        if (!isTable(table) || columns < 1 || columns > MOST_COLUMNS) {
            return REFUSED;
        }
        draft.length = 0;
        int written = plantDraft(table);
        if (written != FULL) {
            widths[table] = columns;
        }
        return written;
    }

    public int put(int table, int key, int column, int value, boolean none) {
        if (!isColumn(table, column)) {
            return REFUSED;
        }
        draftRowsOf(table);
        int place = draft.placeOf(key);
        if (!draft.hasKeyAt(place, key)) {
            if (draft.length >= MOST_ROWS) {
                return FULL;
            }
            draft.insertAt(place, blankRow(key, widths[table]));
        }
        draft.rows[place] = draft.rows[place].withCell(column, value, none);
        return plantDraft(table);
    }

    public int remove(int table, int key) {
        if (!isTable(table)) {
            return REFUSED;
        }
        draftRowsOf(table);
        int place = draft.placeOf(key);
        if (!draft.hasKeyAt(place, key)) {
            return NONE;
        }
        draft.takeAt(place);
        return plantDraft(table);
    }

    public int copy(int table, int from) {
        if (!isTable(table) || !isTable(from)) {
            return REFUSED;
        }
        widths[table] = widths[from];
        roots[table] = roots[from];
        return 0;
    }

    public long get(int table, int key, int column) {
        if (!isColumn(table, column)) {
            return NOTHING + REFUSED;
        }
        Row found = rowWithKey(roots[table], key);
        if (found == null) {
            return NOTHING + NONE;
        }
        return found.isNull(column) ? NOTHING : found.cells[column];
    }

    public int measure(int table, int what) {
        if (!isTable(table)) {
            return REFUSED;
        }
        Node root = roots[table];
        switch (what) {
            case 0:
                return root.rowCount;
            case 1:
                return widths[table];
            case 2:
                return root.height;
            case 3:
                return stampTree(root, newStamp(), TOP);
            default:
                return REFUSED;
        }
    }

    public long address(int table) {
        return isTable(table) ? addressOf(roots[table], TOP) : 0;
    }

    public long row(int table, int k) {
        if (!isTable(table) || k < 0 || k >= roots[table].rowCount) {
            return NOTHING;
        }
        return keyInOrder(roots[table], k);
    }

    public int compare(int one, int two) {
        if (!isTable(one) || !isTable(two) || widths[one] != widths[two]) {
            return REFUSED;
        }
        gatherUnshared(one, two, draft);
        gatherUnshared(two, one, beside);
        differences.collect(draft, beside);
        return differences.length;
    }

    public long difference(int k, int what) {
        if (k < 0 || k >= differences.length) {
            return NOTHING;
        }
        switch (what) {
            case 0:
                return differences.keys[k];
            case 1:
                return differences.sides[k];
            case 2:
                return differences.unlikes[k];
            default:
                return NOTHING;
        }
    }

    public int sweep() {
        int stamp = newStamp();
        for (Node root : roots) {
            stampTree(root, stamp, TOP);
        }
        return store.dropWithout(stamp);
    }

    public int count(int what) {
        switch (what) {
            case 0:
                return store.nodes;
            case 1:
                return store.size;
            default:
                return REFUSED;
        }
    }

    private static boolean isTable(int table) {
        return table >= 0 && table < TABLES;
    }

    private boolean isColumn(int table, int column) {
        return isTable(table) && column >= 0 && column < widths[table];
    }

    private int newStamp() {
        lastStamp++;
        return lastStamp;
    }

    private void draftRowsOf(int table) {
        draft.length = 0;
        // No node bears a new stamp, so none is passed over.
        gather(roots[table], newStamp(), draft, TOP);
    }

    /** A node that both tables have can hold no difference, so its rows are left out. */
    private void gatherUnshared(int table, int other, RowList into) {
        int stamp = newStamp();
        stampTree(roots[other], stamp, TOP);
        into.length = 0;
        gather(roots[table], stamp, into, TOP);
    }

    /** Answers how many nodes are written, or FULL: then the table stays as it was. */
    private int plantDraft(int table) {
        int length = groupRows();
        for (int height = 1; height <= TOP && length > 1; height++) {
            length = groupNodes(height, length);
        }
        int written = store.keepPending();
        if (written != FULL) {
            roots[table] = line[0];
        }
        return written;
    }

    private int groupRows() {
        if (draft.length == 0) {
            line[0] = store.leafOf(draft.rows, 0, 0);
            return 1;
        }
        int length = 0;
        int from = 0;
        for (int i = 0; i < draft.length; i++) {
            if (draft.rows[i].level >= 1 || i + 1 == draft.length) {
                line[length] = store.leafOf(draft.rows, from, i + 1);
                length++;
                from = i + 1;
            }
        }
        return length;
    }

    /** Works in place: a run is read to its end before the one node for it is set down. */
    private int groupNodes(int height, int below) {
        int length = 0;
        int from = 0;
        for (int i = 0; i < below; i++) {
            if (line[i].lastLevel >= height + 1 || i + 1 == below) {
                line[length] = store.branchOf(height, line, from, i + 1);
                length++;
                from = i + 1;
            }
        }
        return length;
    }

    /** Answers how many nodes had not got the stamp before. */
    private static int stampTree(Node node, int stamp, int deep) {
        if (deep < 0 || node.stamp == stamp) {
            return 0;
        }
        node.stamp = stamp;
        int stamped = 1;
        for (Node child : node.below) {
            stamped += stampTree(child, stamp, deep - 1);
        }
        return stamped;
    }

    private static void gather(Node node, int passedOver, RowList into, int deep) {
        if (deep < 0 || node.stamp == passedOver) {
            return;
        }
        for (Row each : node.rows) {
            into.append(each);
        }
        for (Node child : node.below) {
            gather(child, passedOver, into, deep - 1);
        }
    }

    private static Row rowWithKey(Node root, int key) {
        Node node = root;
        for (int deep = TOP; deep > 0 && node.height > 0; deep--) {
            int i = 0;
            while (i + 1 < node.below.length && node.below[i].lastKey < key) {
                i++;
            }
            node = node.below[i];
        }
        for (Row each : node.rows) {
            if (each.key == key) {
                return each;
            }
        }
        return null;
    }

    private static long keyInOrder(Node root, int k) {
        Node node = root;
        int left = k;
        for (int deep = TOP; deep > 0 && node.height > 0; deep--) {
            int i = 0;
            while (i + 1 < node.below.length && left >= node.below[i].rowCount) {
                left -= node.below[i].rowCount;
                i++;
            }
            node = node.below[i];
        }
        return left < node.rows.length ? node.rows[left].key : NOTHING;
    }

    /** Worked out when first asked for and then kept: most nodes are never asked. */
    private static long addressOf(Node node, int deep) {
        if (deep < 0 || node.hasAddress) {
            return node.address;
        }
        long h = mixed(ADDRESS_START, node.height);
        for (Row each : node.rows) {
            h = mixedRow(h, each);
        }
        for (Node child : node.below) {
            h = mixed(h, addressOf(child, deep - 1));
        }
        node.address = h;
        node.hasAddress = true;
        return h;
    }

    private static long mixedRow(long start, Row each) {
        long h = mixed(start, each.key);
        for (int column = 0; column < each.cells.length; column++) {
            h = each.isNull(column) ? mixed(h, 0) : mixed(mixed(h, 1), each.cells[column]);
        }
        return h;
    }

    private static long mixed(long h, long number) {
        return (h ^ number) * ADDRESS_FACTOR;
    }

    private static Row blankRow(int key, int width) {
        return new Row(key, new int[width], (1 << width) - 1);
    }

    private static int levelOf(int key) {
        int x = key * -1640531535;
        x = x ^ x >>> 15;
        x = x * -2048144777;
        x = x ^ x >>> 13;
        int level = 0;
        // Two halvings make a level; 0 can be halved for ever and so reaches the top.
        while (level < TOP && (x & 3) == 0) {
            x = x >>> 2;
            level++;
        }
        return level;
    }

    /** A row never changes, so that tables and nodes can share it. */
    private static final class Row {
        final int key;
        /** 0 where the cell is NULL, so that like rows have like numbers. */
        final int[] cells;
        final int nulls;
        final int level;
        final int print;

        Row(int key, int[] cells, int nulls) {
            this.key = key;
            this.cells = cells;
            this.nulls = nulls;
            this.level = levelOf(key);
            int mix = key * 31 + nulls;
            for (int cell : cells) {
                mix = mix * 31 + cell;
            }
            this.print = mix;
        }

        Row withCell(int column, int value, boolean none) {
            int[] changed = cells.clone();
            changed[column] = none ? 0 : value;
            int bit = 1 << column;
            return new Row(key, changed, none ? nulls | bit : nulls & ~bit);
        }

        boolean isNull(int column) {
            return (nulls >>> column & 1) != 0;
        }

        boolean isLike(Row other) {
            return this == other
                || key == other.key && cells.length == other.cells.length && unlikeCells(other) == 0;
        }

        /** Bit by bit, the columns in which two rows of as many columns differ. */
        int unlikeCells(Row other) {
            int unlike = nulls ^ other.nulls;
            for (int column = 0; column < cells.length && column < other.cells.length; column++) {
                if (cells[column] != other.cells[column]) {
                    unlike |= 1 << column;
                }
            }
            return unlike;
        }
    }

    /** Rows by rising keys, in room that is used again and again. */
    private static final class RowList {
        final Row[] rows = new Row[MOST_ROWS];
        int length = 0;

        void append(Row added) {
            if (length < MOST_ROWS) {
                rows[length] = added;
                length++;
            }
        }

        /** Where the key is, or where it would have to stand. */
        int placeOf(int key) {
            int place = 0;
            while (place < length && rows[place].key < key) {
                place++;
            }
            return place;
        }

        boolean hasKeyAt(int place, int key) {
            return place < length && rows[place].key == key;
        }

        /** The caller has seen that there are fewer than MOST_ROWS. */
        void insertAt(int place, Row added) {
            for (int i = length; i > place; i--) {
                rows[i] = rows[i - 1];
            }
            rows[place] = added;
            length++;
        }

        void takeAt(int place) {
            length--;
            for (int i = place; i < length; i++) {
                rows[i] = rows[i + 1];
            }
        }
    }

    /** A leaf, with rows and nothing below, or a branch, with nodes below and no rows. */
    private static final class Node {
        final int height;
        final Row[] rows;
        final Node[] below;
        final int rowCount;
        final int size;
        final int lastKey;
        final int lastLevel;
        /** Like nodes have like prints, and few others have: it finds them, and is no proof. */
        final int print;
        long address = 0;
        boolean hasAddress = false;
        int stamp = 0;
        Node next = null;

        Node(Row[] source, int from, int to, int print) {
            this.height = 0;
            this.rows = new Row[to - from];
            this.below = new Node[0];
            int total = 0;
            for (int i = from; i < to; i++) {
                this.rows[i - from] = source[i];
                total += 1 + source[i].cells.length;
            }
            this.rowCount = to - from;
            this.size = total;
            this.lastKey = from < to ? source[to - 1].key : 0;
            this.lastLevel = from < to ? source[to - 1].level : 0;
            this.print = print;
        }

        Node(int height, Node[] source, int from, int to, int print) {
            this.height = height;
            this.rows = new Row[0];
            this.below = new Node[to - from];
            int total = 0;
            for (int i = from; i < to; i++) {
                this.below[i - from] = source[i];
                total += source[i].rowCount;
            }
            this.rowCount = total;
            this.size = to - from;
            this.lastKey = from < to ? source[to - 1].lastKey : 0;
            this.lastLevel = from < to ? source[to - 1].lastLevel : 0;
            this.print = print;
        }

        boolean isLikeLeaf(Row[] source, int from, int to) {
            if (height != 0 || rows.length != to - from) {
                return false;
            }
            for (int i = from; i < to; i++) {
                if (!rows[i - from].isLike(source[i])) {
                    return false;
                }
            }
            return true;
        }

        /**
         * Of like nodes there is one, so those below are like if they are the same; and then
         * the height is the same too.
         */
        boolean isLikeBranch(Node[] source, int from, int to) {
            if (below.length != to - from) {
                return false;
            }
            for (int i = from; i < to; i++) {
                if (below[i - from] != source[i]) {
                    return false;
                }
            }
            return true;
        }
    }

    /**
     * The nodes that there are, of like ones one. A new node is pending, and not in the store,
     * until all of its table's are there and their size is known. Two nodes of one table are
     * never alike, as no key is in both, so the pending ones need not be searched.
     */
    private static final class Store {
        final Node[] buckets = new Node[BUCKETS];
        Node pending = null;
        int nodes = 0;
        int size = 0;

        Node leafOf(Row[] source, int from, int to) {
            int print = 0;
            for (int i = from; i < to; i++) {
                print = print * 31 + source[i].print;
            }
            for (Node node = buckets[bucketOf(print)]; node != null; node = node.next) {
                if (node.print == print && node.isLikeLeaf(source, from, to)) {
                    return node;
                }
            }
            return pend(new Node(source, from, to, print));
        }

        Node branchOf(int height, Node[] source, int from, int to) {
            int print = height;
            for (int i = from; i < to; i++) {
                print = print * 31 + source[i].print;
            }
            for (Node node = buckets[bucketOf(print)]; node != null; node = node.next) {
                if (node.print == print && node.isLikeBranch(source, from, to)) {
                    return node;
                }
            }
            return pend(new Node(height, source, from, to, print));
        }

        /** Answers how many nodes were pending, or FULL: then they are all forgotten. */
        int keepPending() {
            int added = 0;
            int addedSize = 0;
            for (Node node = pending; node != null; node = node.next) {
                added++;
                addedSize += node.size;
            }
            Node node = pending;
            pending = null;
            if (size + addedSize > MOST_SIZE) {
                return FULL;
            }
            while (node != null) {
                Node following = node.next;
                link(node);
                node = following;
            }
            nodes += added;
            size += addedSize;
            return added;
        }

        int dropWithout(int stamp) {
            int dropped = 0;
            for (int bucket = 0; bucket < BUCKETS; bucket++) {
                Node node = buckets[bucket];
                buckets[bucket] = null;
                while (node != null) {
                    Node following = node.next;
                    if (node.stamp == stamp) {
                        link(node);
                    } else {
                        dropped++;
                        size -= node.size;
                    }
                    node = following;
                }
            }
            nodes -= dropped;
            return dropped;
        }

        private Node pend(Node node) {
            node.next = pending;
            pending = node;
            return node;
        }

        private void link(Node node) {
            int bucket = bucketOf(node.print);
            node.next = buckets[bucket];
            buckets[bucket] = node;
        }

        private static int bucketOf(int print) {
            return print * SPREAD >>> BUCKET_SHIFT;
        }
    }

    /** What the last comparison found; later changes of the tables leave it as it is. */
    private static final class Differences {
        final int[] keys = new int[2 * MOST_ROWS];
        final int[] sides = new int[2 * MOST_ROWS];
        final int[] unlikes = new int[2 * MOST_ROWS];
        int length = 0;

        void collect(RowList first, RowList second) {
            length = 0;
            int i = 0;
            int j = 0;
            while (i < first.length || j < second.length) {
                if (j >= second.length || i < first.length && first.rows[i].key < second.rows[j].key) {
                    note(first.rows[i].key, IN_FIRST, 0);
                    i++;
                } else if (i >= first.length || second.rows[j].key < first.rows[i].key) {
                    note(second.rows[j].key, IN_SECOND, 0);
                    j++;
                } else {
                    int unlike = first.rows[i].unlikeCells(second.rows[j]);
                    if (unlike != 0) {
                        note(first.rows[i].key, IN_BOTH, unlike);
                    }
                    i++;
                    j++;
                }
            }
        }

        private void note(int key, int side, int unlike) {
            if (length < keys.length) {
                keys[length] = key;
                sides[length] = side;
                unlikes[length] = unlike;
                length++;
            }
        }
    }
}
