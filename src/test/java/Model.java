import java.util.ArrayList;
import java.util.HashSet;
import java.util.List;
import java.util.Map;
import java.util.Set;
import java.util.TreeMap;
import java.util.TreeSet;

/**
 * The document taken at its word and without haste: nodes are built anew for every question,
 * and two are alike if they are written alike.
 */
final class Model {
    static final long NOTHING = 1L << 40;
    static final int REFUSED = -1;
    static final int NONE = -2;
    static final int FULL = -3;

    record Node(int height, String text, int size, long address, int lastKey) { }

    private final List<TreeMap<Integer, Integer[]>> tables = new ArrayList<>();
    private final int[] columns = {1, 1, 1, 1, 1, 1};
    private final Map<String, Integer> store = new TreeMap<>();
    private final List<long[]> differences = new ArrayList<>();

    Model() {
        for (int table = 0; table < 6; table++) {
            tables.add(new TreeMap<>());
        }
        for (Node node : nodesOf(tables.get(0))) {
            store.put(node.text, node.size);
        }
    }

    static int level(int key) {
        int x = key * -1640531535;
        x = x ^ x >>> 15;
        x = x * -2048144777;
        x = x ^ x >>> 13;
        if (x == 0) {
            return 5;
        }
        int halvings = 0;
        while (x % 2 == 0) {
            x = x / 2;
            halvings++;
        }
        return Math.min(5, halvings / 2);
    }

    static long mix(long... numbers) {
        long h = 1469598103934665603L;
        for (long number : numbers) {
            h = (h ^ number) * 1099511628211L;
        }
        return h;
    }

    /** All nodes, the greatest one last. */
    static List<Node> nodesOf(TreeMap<Integer, Integer[]> rows) {
        List<Node> all = new ArrayList<>();
        List<Node> current = new ArrayList<>();
        List<Integer> run = new ArrayList<>();
        for (int key : rows.keySet()) {
            run.add(key);
            if (level(key) >= 1 || key == rows.lastKey()) {
                current.add(leaf(run, rows));
                run.clear();
            }
        }
        if (rows.isEmpty()) {
            current.add(leaf(run, rows));
        }
        all.addAll(current);
        for (int h = 0; current.size() > 1; h++) {
            List<Node> above = new ArrayList<>();
            List<Node> group = new ArrayList<>();
            for (int i = 0; i < current.size(); i++) {
                group.add(current.get(i));
                if (level(current.get(i).lastKey) >= h + 2 || i == current.size() - 1) {
                    above.add(branch(h + 1, group));
                    group.clear();
                }
            }
            all.addAll(above);
            current = above;
        }
        return all;
    }

    private static Node leaf(List<Integer> keys, TreeMap<Integer, Integer[]> rows) {
        StringBuilder text = new StringBuilder("leaf");
        List<Long> numbers = new ArrayList<>();
        numbers.add(0L);
        int size = 0;
        for (int key : keys) {
            numbers.add((long) key);
            text.append(" row ").append(key);
            size++;
            for (Integer cell : rows.get(key)) {
                text.append(' ').append(cell == null ? "NULL" : cell.toString());
                size++;
                if (cell == null) {
                    numbers.add(0L);
                } else {
                    numbers.add(1L);
                    numbers.add((long) cell);
                }
            }
        }
        int last = keys.isEmpty() ? 0 : keys.get(keys.size() - 1);
        return new Node(0, text.toString(), size, mixAll(numbers), last);
    }

    private static Node branch(int height, List<Node> group) {
        StringBuilder text = new StringBuilder("branch ").append(height);
        List<Long> numbers = new ArrayList<>();
        numbers.add((long) height);
        for (Node node : group) {
            text.append(" (").append(node.text).append(')');
            numbers.add(node.address);
        }
        return new Node(height, text.toString(), group.size(), mixAll(numbers), group.get(group.size() - 1).lastKey);
    }

    private static long mixAll(List<Long> numbers) {
        return mix(numbers.stream().mapToLong(Long::longValue).toArray());
    }

    private static boolean noTable(int table) {
        return table < 0 || table > 5;
    }

    private boolean noColumn(int table, int column) {
        return noTable(table) || column < 0 || column >= columns[table];
    }

    private Node greatest(int table) {
        List<Node> nodes = nodesOf(tables.get(table));
        return nodes.get(nodes.size() - 1);
    }

    private TreeMap<Integer, Integer[]> rowsOf(int table) {
        TreeMap<Integer, Integer[]> rows = new TreeMap<>();
        tables.get(table).forEach((key, cells) -> rows.put(key, cells.clone()));
        return rows;
    }

    private int size() {
        return store.values().stream().mapToInt(Integer::intValue).sum();
    }

    private int write(int table, TreeMap<Integer, Integer[]> rows) {
        Map<String, Integer> written = new TreeMap<>();
        for (Node node : nodesOf(rows)) {
            if (!store.containsKey(node.text)) {
                written.put(node.text, node.size);
            }
        }
        int more = written.values().stream().mapToInt(Integer::intValue).sum();
        if (size() + more > 60000) {
            return FULL;
        }
        store.putAll(written);
        tables.set(table, rows);
        return written.size();
    }

    int make(int table, int width) {
        if (noTable(table) || width < 1 || width > 6) {
            return REFUSED;
        }
        int written = write(table, new TreeMap<>());
        if (written >= 0) {
            columns[table] = width;
        }
        return written;
    }

    int put(int table, int key, int column, int value, boolean none) {
        if (noColumn(table, column)) {
            return REFUSED;
        }
        TreeMap<Integer, Integer[]> rows = rowsOf(table);
        if (!rows.containsKey(key)) {
            if (rows.size() == 300) {
                return FULL;
            }
            rows.put(key, new Integer[columns[table]]);
        }
        rows.get(key)[column] = none ? null : value;
        return write(table, rows);
    }

    int remove(int table, int key) {
        if (noTable(table)) {
            return REFUSED;
        }
        TreeMap<Integer, Integer[]> rows = rowsOf(table);
        return rows.remove(key) == null ? NONE : write(table, rows);
    }

    int copy(int table, int from) {
        if (noTable(table) || noTable(from)) {
            return REFUSED;
        }
        tables.set(table, rowsOf(from));
        columns[table] = columns[from];
        return 0;
    }

    long get(int table, int key, int column) {
        if (noColumn(table, column)) {
            return NOTHING + REFUSED;
        }
        Integer[] cells = tables.get(table).get(key);
        if (cells == null) {
            return NOTHING + NONE;
        }
        return cells[column] == null ? NOTHING : cells[column];
    }

    int measure(int table, int what) {
        if (noTable(table) || what < 0 || what > 3) {
            return REFUSED;
        }
        Set<String> different = new HashSet<>();
        nodesOf(tables.get(table)).forEach(node -> different.add(node.text));
        int[] measures = {tables.get(table).size(), columns[table], greatest(table).height, different.size()};
        return measures[what];
    }

    long address(int table) {
        return noTable(table) ? 0 : greatest(table).address;
    }

    long row(int table, int k) {
        if (noTable(table) || k < 0 || k >= tables.get(table).size()) {
            return NOTHING;
        }
        return new ArrayList<>(tables.get(table).keySet()).get(k);
    }

    int compare(int one, int two) {
        if (noTable(one) || noTable(two) || columns[one] != columns[two]) {
            return REFUSED;
        }
        differences.clear();
        Set<Integer> keys = new TreeSet<>(tables.get(one).keySet());
        keys.addAll(tables.get(two).keySet());
        for (int key : keys) {
            Integer[] first = tables.get(one).get(key);
            Integer[] second = tables.get(two).get(key);
            if (first == null || second == null) {
                differences.add(new long[] {key, first == null ? 0 : 1, 0});
                continue;
            }
            long unlike = 0;
            for (int column = 0; column < columns[one]; column++) {
                if (!java.util.Objects.equals(first[column], second[column])) {
                    unlike += 1L << column;
                }
            }
            if (unlike != 0) {
                differences.add(new long[] {key, 2, unlike});
            }
        }
        return differences.size();
    }

    long difference(int k, int what) {
        if (k < 0 || k >= differences.size() || what < 0 || what > 2) {
            return NOTHING;
        }
        return differences.get(k)[what];
    }

    int sweep() {
        Set<String> had = new HashSet<>();
        for (TreeMap<Integer, Integer[]> rows : tables) {
            nodesOf(rows).forEach(node -> had.add(node.text));
        }
        int before = store.size();
        store.keySet().retainAll(had);
        return before - store.size();
    }

    int count(int what) {
        return what == 0 ? store.size() : what == 1 ? size() : REFUSED;
    }
}
