import java.util.ArrayList;
import java.util.List;
import java.util.NavigableMap;
import java.util.TreeMap;

/**
 * The document said once more, as plainly as the library allows: syntax is one pattern,
 * and a SELECT's rows are all made at its first step. ModelTest holds the program against it.
 */
final class Model {
    /** A letter for each word; t, c and n are TABLE, COLUMN and NUMBER. */
    private static final String LETTERS = "CIDSAOUFW&=<>V";
    private static final String CONDITION = "[cn][=<>][cn]";
    private static final String CONDITIONS = "(W" + CONDITION + "(&" + CONDITION + "){0,7})?";
    private static final String STATEMENT =
            "Ctn|Itn+|Dt" + CONDITIONS + "|S(A|O|Uc|c{1,8})Ft{1,2}" + CONDITIONS + "V?";

    private final List<NavigableMap<Integer, int[]>> tables = new ArrayList<>();
    private final int[] columns = new int[10];
    private List<int[]> pending = new ArrayList<>();
    private List<int[]> statement;
    private String letters;
    private List<long[]> result;
    private int next;
    private boolean onRow;

    Model() {
        clear();
    }

    void clear() {
        tables.clear();
        for (int t = 0; t < 10; t++) {
            tables.add(null);
            columns[t] = 0;
        }
        pending = new ArrayList<>();
        statement = null;
        begin();
    }

    private void begin() {
        result = null;
        next = 0;
        onRow = false;
    }

    int feed(int kind, int number) {
        boolean isToken = kind == 0 && number >= 0 && number <= 13 || kind == 1 && number >= 0 && number <= 9
                || kind == 2 && number >= 0 && number <= 15 && number % 10 <= 5 || kind == 3;
        if (!isToken) {
            throw new IllegalArgumentException();
        }
        if (pending.size() == 60) {
            throw new IllegalStateException();
        }
        pending.add(new int[] {kind, number});
        return pending.size();
    }

    private static String lettersOf(List<int[]> tokens) {
        StringBuilder text = new StringBuilder();
        for (int[] token : tokens) {
            text.append(token[0] == 0 ? LETTERS.charAt(token[1]) : "?tcn".charAt(token[0]));
        }
        return text.toString();
    }

    private static List<Integer> numbersOf(List<int[]> tokens, int kind) {
        List<Integer> numbers = new ArrayList<>();
        for (int[] token : tokens) {
            if (token[0] == kind) {
                numbers.add(token[1]);
            }
        }
        return numbers;
    }

    int prepare() {
        List<int[]> tokens = pending;
        pending = new ArrayList<>();
        int fault = faultOf(tokens);
        if (fault == 0) {
            statement = tokens;
            letters = lettersOf(tokens);
            begin();
        }
        return fault;
    }

    private int faultOf(List<int[]> tokens) {
        String text = lettersOf(tokens);
        if (!text.matches(STATEMENT)) {
            return -1;
        }
        List<Integer> named = numbersOf(tokens, 1);
        List<Integer> numbers = numbersOf(tokens, 3);
        if (text.startsWith("C")) {
            boolean isSize = numbers.get(0) >= 1 && numbers.get(0) <= 6;
            return tables.get(named.get(0)) != null ? -4 : isSize ? 0 : -5;
        }
        for (int table : named) {
            if (tables.get(table) == null) {
                return -2;
            }
        }
        for (int column : numbersOf(tokens, 2)) {
            if (column / 10 >= named.size() || column % 10 >= columns[named.get(column / 10)]) {
                return -3;
            }
        }
        return text.startsWith("I") && numbers.size() != columns[named.get(0)] ? -5 : 0;
    }

    private void needStatement() {
        if (statement == null) {
            throw new IllegalStateException();
        }
    }

    int step() {
        needStatement();
        onRow = false;
        if (result == null) {
            int answer = perform();
            if (answer != 0) {
                return answer;
            }
        }
        if (next < result.size()) {
            next++;
            onRow = true;
        }
        return onRow ? 1 : 0;
    }

    private int perform() {
        result = new ArrayList<>();
        int table = numbersOf(statement, 1).get(0);
        List<Integer> numbers = numbersOf(statement, 3);
        switch (letters.charAt(0)) {
            case 'C':
                return create(table, numbers.get(0));
            case 'I':
                return insert(table, numbers);
            case 'D':
                tables.get(table).values().removeIf(row -> holds(new int[][] {row, null}));
                return 0;
            default:
                select();
                return 0;
        }
    }

    private int create(int table, int count) {
        if (tables.get(table) != null) {
            return -3;
        }
        tables.set(table, new TreeMap<>());
        columns[table] = count;
        return 0;
    }

    private int insert(int table, List<Integer> numbers) {
        if (tables.get(table).containsKey(numbers.get(0))) {
            return -1;
        }
        if (all() == 400) {
            return -2;
        }
        tables.get(table).put(numbers.get(0), numbers.stream().mapToInt(n -> n).toArray());
        return 0;
    }

    private static long valueOf(int[] token, int[][] rows) {
        return token[0] == 3 ? token[1] : rows[token[1] / 10][token[1] % 10];
    }

    private boolean holds(int[][] rows) {
        for (int i = 0; i < letters.length(); i++) {
            if ("=<>".indexOf(letters.charAt(i)) >= 0) {
                int sign = Long.signum(valueOf(statement.get(i - 1), rows) - valueOf(statement.get(i + 1), rows));
                if (sign != "<=>".indexOf(letters.charAt(i)) - 1) {
                    return false;
                }
            }
        }
        return true;
    }

    private Iterable<int[]> inOrder(int table) {
        NavigableMap<Integer, int[]> rows = tables.get(table);
        return (letters.endsWith("V") ? rows.descendingMap() : rows).values();
    }

    private void select() {
        List<Integer> named = numbersOf(statement, 1);
        List<int[][]> found = new ArrayList<>();
        for (int[] first : inOrder(named.get(0))) {
            if (named.size() == 1) {
                found.add(new int[][] {first, {}});
            } else {
                for (int[] second : inOrder(named.get(1))) {
                    found.add(new int[][] {first, second});
                }
            }
        }
        found.removeIf(rows -> !holds(rows));
        long sum = 0;
        for (int[][] rows : found) {
            result.add(listOf(rows));
            sum += letters.charAt(1) == 'U' ? valueOf(statement.get(2), rows) : 1;
        }
        if (letters.charAt(1) == 'O' || letters.charAt(1) == 'U') {
            result.clear();
            result.add(new long[] {sum});
        }
    }

    private long[] listOf(int[][] rows) {
        List<Long> values = new ArrayList<>();
        for (int i = 1; letters.charAt(i) == 'c'; i++) {
            values.add(valueOf(statement.get(i), rows));
        }
        if (letters.charAt(1) == 'A') {
            for (int[] row : rows) {
                for (int value : row) {
                    values.add((long) value);
                }
            }
        }
        return values.stream().mapToLong(v -> v).toArray();
    }

    int reset() {
        needStatement();
        int given = next;
        begin();
        return given;
    }

    int width() {
        needStatement();
        if (letters.charAt(0) != 'S') {
            return 0;
        }
        if (letters.charAt(1) == 'A') {
            return numbersOf(statement, 1).stream().mapToInt(t -> columns[t]).sum();
        }
        return letters.charAt(1) == 'c' ? letters.indexOf('F') - 1 : 1;
    }

    long column(int i) {
        if (!onRow) {
            throw new IllegalStateException();
        }
        if (i < 0 || i >= result.get(next - 1).length) {
            throw new IndexOutOfBoundsException();
        }
        return result.get(next - 1)[i];
    }

    int rows(int table) {
        if (table < 0 || table > 9) {
            throw new IllegalArgumentException();
        }
        return tables.get(table) == null ? -1 : tables.get(table).size();
    }

    int all() {
        return tables.stream().mapToInt(rows -> rows == null ? 0 : rows.size()).sum();
    }

    int nearest(int table, int v, boolean up) {
        if (table < 0 || table > 9 || tables.get(table) == null) {
            throw new IllegalArgumentException();
        }
        Integer key = up ? tables.get(table).ceilingKey(v) : tables.get(table).floorKey(v);
        if (key == null) {
            throw new IllegalStateException();
        }
        return key;
    }
}
