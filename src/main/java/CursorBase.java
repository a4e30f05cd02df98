/**
 * Tables of numbers, asked by statements that are put in word by word,
 * compiled to code of cursors, and stepped through row by row.
 */
public final class CursorBase {
    /** There is none. */
    public static final int NONE = -1;

    private static final int TABLES = 10;
    private static final int MOST_COLUMNS = 6;
    private static final int MOST_ROWS = 400;
    private static final int MOST_TOKENS = 60;
    private static final int MOST_CONDITIONS = 8;
    private static final int MOST_LISTED = 8;

    /** The COLUMN of this number is the second table's first one. */
    private static final int SECOND = 10;

    private static final int WORD = 0;
    private static final int TABLE = 1;
    private static final int COLUMN = 2;
    private static final int NUMBER = 3;

    private static final int CREATE = 0;
    private static final int INSERT = 1;
    private static final int DELETE = 2;
    private static final int SELECT = 3;
    private static final int ALL = 4;
    private static final int COUNT = 5;
    private static final int SUM = 6;
    private static final int FROM = 7;
    private static final int WHERE = 8;
    private static final int AND = 9;
    private static final int IS = 10;
    private static final int BELOW = 11;
    private static final int ABOVE = 12;
    private static final int FALLING = 13;

    private static final int RIGHT = 0;
    private static final int SYNTAX = -1;
    private static final int NO_TABLE = -2;
    private static final int NO_COLUMN = -3;
    private static final int EXISTS = -4;
    private static final int ARITY = -5;

    private static final int ROW = 1;
    private static final int END = 0;
    private static final int KEY_IS_THERE = -1;
    private static final int ROWS_ARE_FULL = -2;
    private static final int TABLE_IS_THERE = -3;

    private final Tokens pending;
    private final Tables tables;
    private final Run run;

    public CursorBase() {
        pending = new Tokens();
        tables = new Tables();
        run = new Run();
    }

    public int feed(int kind, int number) throws IllegalArgumentException, IllegalStateException {
        if (!Tokens.isToken(kind, number)) {
            throw new IllegalArgumentException("this is no token");
        }
        if (pending.isFull()) {
            throw new IllegalStateException("60 tokens are pending");
        }
        pending.put(kind, number);
        return pending.size;
    }

    public int prepare() {
        Statement next = new Parser(pending).parse();
        pending.drop();
        if (next == null) {
            return SYNTAX;
        }
        int fault = next.fault(tables);
        if (fault == RIGHT) {
            next.spellOutAll(tables);
            run.begin(next);
        }
        return fault;
    }

    public int step() throws IllegalStateException {
        if (run.statement == null) {
            throw new IllegalStateException("there is no statement");
        }
        return run.advance(tables);
    }

    public int reset() throws IllegalStateException {
        if (run.statement == null) {
            throw new IllegalStateException("there is no statement");
        }
        int given = run.given;
        run.begin(run.statement);
        return given;
    }

    public int width() throws IllegalStateException {
        if (run.statement == null) {
            throw new IllegalStateException("there is no statement");
        }
        return run.statement.columnCount();
    }

    public long column(int i) throws IllegalStateException, IndexOutOfBoundsException {
        if (run.statement == null || !run.onRow) {
            throw new IllegalStateException("there is no row");
        }
        if (i < 0 || i >= run.statement.columnCount()) {
            throw new IndexOutOfBoundsException("the row has no such column");
        }
        return run.valueAt(i);
    }

    public int rows(int table) throws IllegalArgumentException {
        if (table < 0 || table >= TABLES) {
            throw new IllegalArgumentException("tables are 0 to 9");
        }
        return tables.isThere(table) ? tables.rowsOf(table) : NONE;
    }

    public int all() {
        return tables.rowsInAll();
    }

    public int nearest(int table, int v, boolean up) throws IllegalArgumentException, IllegalStateException {
        if (!tables.isThere(table)) {
            throw new IllegalArgumentException("the table is not there");
        }
        int place = tables.placeNearest(table, v, up);
        if (place == NONE) {
            throw new IllegalStateException("there is no such key");
        }
        return tables.keyAt(table, place);
    }

    public void clear() {
        pending.drop();
        tables.drop();
        run.begin(null);
    }

    /** The pending tokens. */
    private static final class Tokens {
        private final int[] kinds = new int[MOST_TOKENS];
        private final int[] numbers = new int[MOST_TOKENS];
        private int size;

        static boolean isToken(int kind, int number) {
            switch (kind) {
                case WORD:
                    return number >= CREATE && number <= FALLING;
                case TABLE:
                    return number >= 0 && number < TABLES;
                case COLUMN:
                    return isColumnFrom(0, number) || isColumnFrom(SECOND, number);
                case NUMBER:
                    return true;
                default:
                    return false;
            }
        }

        private static boolean isColumnFrom(int lowest, int number) {
            return number >= lowest && number < lowest + MOST_COLUMNS;
        }

        boolean isFull() {
            return size >= MOST_TOKENS;
        }

        void put(int kind, int number) {
            if (isFull()) {
                return;
            }
            kinds[size] = kind;
            numbers[size] = number;
            size++;
        }

        void drop() {
            size = 0;
        }

        boolean isKind(int at, int kind) {
            return at >= 0 && at < size && kinds[at] == kind;
        }
    }

    /** A COLUMN or a NUMBER of a statement. */
    private static final class Operand {
        private final int kind;
        private final int number;

        Operand(int kind, int number) {
            this.kind = kind;
            this.number = number;
        }

        boolean isThere(int firstColumns, int secondColumns) {
            if (kind == NUMBER) {
                return true;
            }
            return number < SECOND ? number < firstColumns : number - SECOND < secondColumns;
        }

        /** A COLUMN's number is its place in what a run's cursors have read. */
        int value(int[] read) {
            return kind == NUMBER ? number : read[number];
        }
    }

    private static final class Condition {
        private final Operand left;
        private final int comparison;
        private final Operand right;

        Condition(Operand left, int comparison, Operand right) {
            this.left = left;
            this.comparison = comparison;
            this.right = right;
        }

        boolean isThere(int firstColumns, int secondColumns) {
            return left.isThere(firstColumns, secondColumns) && right.isThere(firstColumns, secondColumns);
        }

        boolean holds(int[] read) {
            int a = left.value(read);
            int b = right.value(read);
            switch (comparison) {
                case IS:
                    return a == b;
                case BELOW:
                    return a < b;
                default:
                    return a > b;
            }
        }
    }

    /** What a statement's tokens ask for; it does not change once it is prepared. */
    private static final class Statement {
        private int verb;
        /** ALL, COUNT or SUM; NONE when the list is of columns, or there is no list. */
        private int list = NONE;
        private int first = NONE;
        private int second = NONE;
        private boolean falling;
        private int numberCount;
        private final int[] numbers = new int[MOST_COLUMNS];
        private int pickCount;
        private final Operand[] picks = new Operand[2 * MOST_COLUMNS];
        private int conditionCount;
        private final Condition[] conditions = new Condition[MOST_CONDITIONS];

        /** Counts numbers that no table has room for, too, so that fault() sees them. */
        void addNumber(int number) {
            if (numberCount < MOST_COLUMNS) {
                numbers[numberCount] = number;
            }
            numberCount++;
        }

        void addPick(int column) {
            if (pickCount < picks.length) {
                picks[pickCount] = new Operand(COLUMN, column);
                pickCount++;
            }
        }

        void addCondition(Condition condition) {
            if (conditionCount < MOST_CONDITIONS) {
                conditions[conditionCount] = condition;
                conditionCount++;
            }
        }

        int fault(Tables tables) {
            if (verb == CREATE) {
                return faultOfCreate(tables);
            }
            if (!tables.isThere(first) || (second != NONE && !tables.isThere(second))) {
                return NO_TABLE;
            }
            if (!columnsAreThere(tables.columnsOf(first), tables.columnsOf(second))) {
                return NO_COLUMN;
            }
            if (verb == INSERT && numberCount != tables.columnsOf(first)) {
                return ARITY;
            }
            return RIGHT;
        }

        private int faultOfCreate(Tables tables) {
            if (tables.isThere(first)) {
                return EXISTS;
            }
            return numbers[0] >= 1 && numbers[0] <= MOST_COLUMNS ? RIGHT : ARITY;
        }

        private boolean columnsAreThere(int firstColumns, int secondColumns) {
            for (int i = 0; i < pickCount; i++) {
                if (!picks[i].isThere(firstColumns, secondColumns)) {
                    return false;
                }
            }
            for (int i = 0; i < conditionCount; i++) {
                if (!conditions[i].isThere(firstColumns, secondColumns)) {
                    return false;
                }
            }
            return true;
        }

        /** A list ALL becomes a list of columns, so that a run needs to know only these. */
        void spellOutAll(Tables tables) {
            if (list != ALL) {
                return;
            }
            addPicks(0, tables.columnsOf(first));
            addPicks(SECOND, tables.columnsOf(second));
        }

        private void addPicks(int lowest, int count) {
            for (int i = 0; i < count; i++) {
                addPick(lowest + i);
            }
        }

        boolean hasTotal() {
            return list == COUNT || list == SUM;
        }

        int columnCount() {
            return hasTotal() ? 1 : pickCount;
        }

        boolean holds(int[] read) {
            for (int i = 0; i < conditionCount; i++) {
                if (!conditions[i].holds(read)) {
                    return false;
                }
            }
            return true;
        }
    }

    /** Makes a statement of the tokens, one take after the other. */
    private static final class Parser {
        private final Tokens tokens;
        private final Statement statement = new Statement();
        private int at;

        Parser(Tokens tokens) {
            this.tokens = tokens;
        }

        /** The statement, or null when the tokens are not just one. */
        Statement parse() {
            statement.verb = takeWordBetween(CREATE, SELECT);
            boolean taken = false;
            switch (statement.verb) {
                case CREATE:
                    taken = takeFirstTable() && takeNumber();
                    break;
                case INSERT:
                    taken = takeFirstTable() && takeNumbers();
                    break;
                case DELETE:
                    taken = takeFirstTable() && takeConditions();
                    break;
                case SELECT:
                    taken = takeList() && takeFrom() && takeConditions() && takeOrder();
                    break;
                default:
                    break;
            }
            return taken && at == tokens.size ? statement : null;
        }

        private boolean takeFrom() {
            if (!takeWord(FROM) || !takeFirstTable()) {
                return false;
            }
            statement.second = takeTable();
            return true;
        }

        /** Never fails: rising keys are the order when no word tells one. */
        private boolean takeOrder() {
            statement.falling = takeWord(FALLING);
            return true;
        }

        private boolean takeWord(int word) {
            return takeWordBetween(word, word) == word;
        }

        private int takeWordBetween(int lowest, int highest) {
            if (!tokens.isKind(at, WORD) || tokens.numbers[at] < lowest || tokens.numbers[at] > highest) {
                return NONE;
            }
            at++;
            return tokens.numbers[at - 1];
        }

        private int takeTable() {
            if (!tokens.isKind(at, TABLE)) {
                return NONE;
            }
            at++;
            return tokens.numbers[at - 1];
        }

        private boolean takeFirstTable() {
            statement.first = takeTable();
            return statement.first != NONE;
        }

        private boolean takeNumber() {
            if (!tokens.isKind(at, NUMBER)) {
                return false;
            }
            statement.addNumber(tokens.numbers[at]);
            at++;
            return true;
        }

        private boolean takeNumbers() {
            boolean taken = takeNumber();
            for (int i = 1; i < MOST_TOKENS && taken; i++) {
                taken = takeNumber();
            }
            return statement.numberCount > 0;
        }

        private boolean takeList() {
            if (takeWord(ALL)) {
                statement.list = ALL;
                return true;
            }
            if (takeWord(COUNT)) {
                statement.list = COUNT;
                return true;
            }
            if (takeWord(SUM)) {
                statement.list = SUM;
                return takeColumns(1);
            }
            return takeColumns(MOST_LISTED);
        }

        /** One column at least; a column beyond the most stays, and is in the way of FROM. */
        private boolean takeColumns(int most) {
            for (int i = 0; i < most && tokens.isKind(at, COLUMN); i++) {
                statement.addPick(tokens.numbers[at]);
                at++;
            }
            return statement.pickCount > 0;
        }

        /** An AND beyond the most conditions stays, and is in the way of the statement's end. */
        private boolean takeConditions() {
            int link = WHERE;
            for (int i = 0; i < MOST_CONDITIONS && takeWord(link); i++) {
                Condition condition = takeCondition();
                if (condition == null) {
                    return false;
                }
                statement.addCondition(condition);
                link = AND;
            }
            return true;
        }

        private Condition takeCondition() {
            Operand left = takeOperand();
            int comparison = takeWordBetween(IS, ABOVE);
            Operand right = takeOperand();
            if (left == null || comparison == NONE || right == null) {
                return null;
            }
            return new Condition(left, comparison, right);
        }

        private Operand takeOperand() {
            if (!tokens.isKind(at, COLUMN) && !tokens.isKind(at, NUMBER)) {
                return null;
            }
            at++;
            return new Operand(tokens.kinds[at - 1], tokens.numbers[at - 1]);
        }
    }

    /**
     * All tables' rows in one array, table after table and each in the order of its keys,
     * so that the limit on all rows together is the array's and no table needs room of its own.
     */
    private static final class Tables {
        private final int[] cells = new int[MOST_ROWS * MOST_COLUMNS];
        /** How many columns each table has; 0 when it is not there. */
        private final int[] columns = new int[TABLES];
        /** Where each table's rows start; they go to where the next one's start. */
        private final int[] starts = new int[TABLES + 1];

        boolean isThere(int table) {
            return columnsOf(table) > 0;
        }

        int columnsOf(int table) {
            return table >= 0 && table < TABLES ? columns[table] : 0;
        }

        int rowsOf(int table) {
            return table >= 0 && table < TABLES ? starts[table + 1] - starts[table] : 0;
        }

        int rowsInAll() {
            return starts[TABLES];
        }

        private int cellOf(int table, int place) {
            return (starts[table] + place) * MOST_COLUMNS;
        }

        int keyAt(int table, int place) {
            return cells[cellOf(table, place)];
        }

        /** Reads a whole row, also the columns that the table does not have: nobody asks for these. */
        void read(int table, int place, int[] to, int from) {
            System.arraycopy(cells, cellOf(table, place), to, from, MOST_COLUMNS);
        }

        private int placeNotBelow(int table, int key) {
            int count = rowsOf(table);
            int place = 0;
            while (place < count && keyAt(table, place) < key) {
                place++;
            }
            return place;
        }

        private boolean hasKeyAt(int table, int place, int key) {
            return place < rowsOf(table) && keyAt(table, place) == key;
        }

        int placeNearest(int table, int v, boolean up) {
            int place = placeNotBelow(table, v);
            if (up) {
                return place < rowsOf(table) ? place : NONE;
            }
            if (hasKeyAt(table, place, v)) {
                return place;
            }
            return place > 0 ? place - 1 : NONE;
        }

        int create(int table, int columnCount) {
            if (isThere(table)) {
                return TABLE_IS_THERE;
            }
            columns[table] = columnCount;
            return END;
        }

        int insert(int table, int[] numbers) {
            int place = placeNotBelow(table, numbers[0]);
            if (hasKeyAt(table, place, numbers[0])) {
                return KEY_IS_THERE;
            }
            if (rowsInAll() >= MOST_ROWS) {
                return ROWS_ARE_FULL;
            }
            int cell = cellOf(table, place);
            System.arraycopy(cells, cell, cells, cell + MOST_COLUMNS, rowsInAll() * MOST_COLUMNS - cell);
            System.arraycopy(numbers, 0, cells, cell, MOST_COLUMNS);
            moveStartsBehind(table, 1);
            return END;
        }

        void remove(int table, int place) {
            int next = cellOf(table, place + 1);
            System.arraycopy(cells, next, cells, next - MOST_COLUMNS, rowsInAll() * MOST_COLUMNS - next);
            moveStartsBehind(table, -1);
        }

        private void moveStartsBehind(int table, int by) {
            for (int i = table + 1; i <= TABLES; i++) {
                starts[i] += by;
            }
        }

        void drop() {
            for (int i = 0; i < TABLES; i++) {
                columns[i] = 0;
                starts[i + 1] = 0;
            }
        }
    }

    /**
     * The statement at hand and how far it is. Its tables cannot change while a SELECT is at hand,
     * so that two counts of rows are cursors enough.
     */
    private static final class Run {
        private Statement statement;
        private int given;
        private boolean onRow;
        private boolean ended;
        private int firstPassed;
        private int secondPassed;
        private long total;
        /** The rows under the cursors: the first table's from 0 on, the second one's from SECOND on. */
        private final int[] read = new int[SECOND + MOST_COLUMNS];

        void begin(Statement next) {
            statement = next;
            given = 0;
            onRow = false;
            ended = false;
            firstPassed = 0;
            secondPassed = 0;
        }

        int advance(Tables tables) {
            if (ended) {
                return END;
            }
            int answer = END;
            switch (statement.verb) {
                case CREATE:
                    answer = tables.create(statement.first, statement.numbers[0]);
                    break;
                case INSERT:
                    answer = tables.insert(statement.first, statement.numbers);
                    break;
                case DELETE:
                    deleteRows(tables);
                    break;
                default:
                    answer = statement.hasTotal() ? giveTotal(tables) : giveRow(tables);
                    break;
            }
            note(answer);
            return answer;
        }

        private void note(int answer) {
            onRow = answer == ROW;
            ended = !onRow;
            if (onRow) {
                given++;
            }
        }

        /** From the last row on, so that what is taken away moves no row that is still to be read. */
        private void deleteRows(Tables tables) {
            for (int place = tables.rowsOf(statement.first) - 1; place >= 0; place--) {
                tables.read(statement.first, place, read, 0);
                if (statement.holds(read)) {
                    tables.remove(statement.first, place);
                }
            }
        }

        private int giveRow(Tables tables) {
            return findRow(tables) ? ROW : END;
        }

        private int giveTotal(Tables tables) {
            if (given > 0) {
                return END;
            }
            total = 0;
            for (int i = 0; i < MOST_ROWS * MOST_ROWS && findRow(tables); i++) {
                total += statement.list == COUNT ? 1 : statement.picks[0].value(read);
            }
            return ROW;
        }

        /** Moves the cursors on to the next rows for which all conditions hold. */
        private boolean findRow(Tables tables) {
            int firstRows = tables.rowsOf(statement.first);
            int secondRows = statement.second == NONE ? 1 : tables.rowsOf(statement.second);
            while (firstPassed < firstRows) {
                tables.read(statement.first, place(firstPassed, firstRows), read, 0);
                while (secondPassed < secondRows) {
                    if (statement.second != NONE) {
                        tables.read(statement.second, place(secondPassed, secondRows), read, SECOND);
                    }
                    secondPassed++;
                    if (statement.holds(read)) {
                        return true;
                    }
                }
                secondPassed = 0;
                firstPassed++;
            }
            return false;
        }

        private int place(int passed, int count) {
            return statement.falling ? count - 1 - passed : passed;
        }

        long valueAt(int i) {
            return statement.hasTotal() ? total : statement.picks[i].value(read);
        }
    }
}
