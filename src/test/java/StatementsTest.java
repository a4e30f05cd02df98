/** Terms: STATEMENTS. */
final class StatementsTest {
    private static final int SYNTAX = -1;

    private final Check check = new Check();

    public static void main(String[] args) {
        new StatementsTest().sentences();
    }

    private void sentences() {
        check.sentence("CREATE table number: that table is there, with so many columns, without rows.", this::create);
        check.sentence("INSERT table number .. (one at least)", this::insertOfNoNumber, this::insertOfOneNumber);
        check.sentence("a row, its columns in order", this::insertInOrder, this::insertAtEachPlace);
        check.sentence("DELETE table [conditions]: takes away the rows for which all conditions hold",
                this::deleteSome, this::deleteNone, this::deleteAtTheEnds, this::deleteFromTheEmptyTable);
        check.sentence("(all rows, without)", this::deleteAll);
        check.sentence("the rows of the first table in the order of their keys", this::rising, this::noRows);
        check.sentence("with FALLING the greatest first", this::falling);
        check.sentence("each, when there is a second table (..), with all rows of that likewise",
                this::twoTables, this::twoTablesFalling, this::twoTablesOfWhichOneIsEmpty);
        check.sentence("(which may be the same one)", this::sameTableTwice);
        check.sentence("of these the ones for which all conditions hold", this::allConditions, this::noRowIsLeft);
        check.sentence("ALL: all columns of the first table, then of the second", this::listAll);
        check.sentence("one to eight COLUMNS", this::listOfColumns, this::listTooShortOrTooLong);
        check.sentence("COUNT: one row alone, with how many rows there are", this::count, this::countOfNone);
        check.sentence("SUM column: one row alone, with the sum of that column", this::sum, this::sumBeyondInts);
        check.sentence("(0 of none)", this::sumOfNone);
        check.sentence("WHERE condition, AND condition and so on, eight at most", this::eightConditions,
                this::nineConditions, this::eachOfEightCounts);
        check.sentence("a condition: a COLUMN or NUMBER, IS (equal to), BELOW or ABOVE, a COLUMN or NUMBER",
                this::comparisons, this::comparisonsAtTheEnds, this::operands);
        check.end();
    }

    /** Keys 1, 3, 5 and 9, put in out of order, with their squares. */
    private Talk squares() {
        return new Talk(check, "CREATE t0 2", "INSERT t0 5 25", "INSERT t0 1 1", "INSERT t0 9 81", "INSERT t0 3 9");
    }

    private void create() {
        for (int n = 1; n <= 6; n++) {
            Talk talk = new Talk(check, "CREATE t4 " + n);
            talk.rows(4, 0);
            talk.selected("SELECT ALL FROM t4");
            check.same("width() of ALL", talk.base.width(), n);
            talk.prepared("SELECT c" + (n - 1) + " FROM t4", 0);
        }
    }

    private void insertOfNoNumber() {
        Talk talk = new Talk(check, "CREATE t0 1");
        talk.prepared("INSERT t0", SYNTAX);
        talk.rows(0, 0);
    }

    private void insertOfOneNumber() {
        Talk talk = new Talk(check, "CREATE t0 1", "INSERT t0 7");
        talk.selected("SELECT ALL FROM t0", Talk.row(7));
    }

    private void insertInOrder() {
        Talk talk = new Talk(check, "CREATE t0 6", "INSERT t0 6 5 4 3 2 1", "INSERT t0 -1 -2 -3 -4 -5 -6");
        talk.selected("SELECT ALL FROM t0", Talk.row(-1, -2, -3, -4, -5, -6), Talk.row(6, 5, 4, 3, 2, 1));
    }

    /** Before all rows, between two and behind all, among rows of other tables, which stay. */
    private void insertAtEachPlace() {
        for (int key : new int[] {-2147483648, 2, 4, 6, 2147483647}) {
            Talk talk = new Talk(check, "CREATE t1 2", "CREATE t0 1", "CREATE t2 1", "INSERT t0 8", "INSERT t2 9",
                    "INSERT t1 3 33", "INSERT t1 5 55", "INSERT t1 " + key + " 0");
            talk.selected("SELECT c0 FROM t1 WHERE c0 BELOW " + key + " AND c1 ABOVE 0",
                    key > 5 ? new long[][] {{3}, {5}} : key > 3 ? new long[][] {{3}} : new long[0][]);
            talk.selected("SELECT ALL FROM t1 WHERE c1 IS 0", Talk.row(key, 0));
            talk.selected("SELECT SUM c1 FROM t1", Talk.row(88));
            talk.selected("SELECT ALL FROM t0 t2", Talk.row(8, 9));
        }
    }

    private void deleteSome() {
        Talk talk = squares();
        talk.done("DELETE t0 WHERE c0 ABOVE 1 AND c1 BELOW 26");
        talk.selected("SELECT ALL FROM t0", Talk.row(1, 1), Talk.row(9, 81));
        talk.done("DELETE t0 WHERE c0 IS c1");
        talk.selected("SELECT ALL FROM t0", Talk.row(9, 81));
    }

    private void deleteNone() {
        Talk talk = squares();
        talk.done("DELETE t0 WHERE c0 IS 2", "DELETE t0 WHERE 1 IS 2", "DELETE t0 WHERE c0 IS 1 AND c1 IS 9");
        talk.selected("SELECT ALL FROM t0", Talk.row(1, 1), Talk.row(3, 9), Talk.row(5, 25), Talk.row(9, 81));
    }

    private void deleteAtTheEnds() {
        Talk talk = squares();
        talk.done("CREATE t1 1", "INSERT t1 7", "DELETE t0 WHERE c0 IS 1", "DELETE t0 WHERE c0 IS 9");
        talk.selected("SELECT ALL FROM t0", Talk.row(3, 9), Talk.row(5, 25));
        talk.done("DELETE t0 WHERE c0 IS 3", "DELETE t0 WHERE c0 IS 5");
        talk.rows(0, 0);
        talk.selected("SELECT ALL FROM t1", Talk.row(7));
    }

    private void deleteFromTheEmptyTable() {
        Talk talk = new Talk(check, "CREATE t0 1", "CREATE t1 1", "INSERT t1 7", "DELETE t0", "DELETE t0 WHERE c0 IS 7");
        talk.rows(0, 0);
        talk.rows(1, 1);
    }

    private void deleteAll() {
        Talk talk = squares();
        talk.done("CREATE t1 1", "INSERT t1 3", "CREATE t2 1", "INSERT t2 8", "DELETE t1", "DELETE t0");
        talk.rows(0, 0);
        talk.rows(1, 0);
        talk.selected("SELECT ALL FROM t2", Talk.row(8));
        talk.done("DELETE t0", "INSERT t0 1 2");
        talk.selected("SELECT ALL FROM t0", Talk.row(1, 2));
    }

    private void rising() {
        Talk talk = squares();
        talk.done("INSERT t0 2147483647 0", "INSERT t0 -2147483648 0", "INSERT t0 -1 0");
        talk.selected("SELECT c0 FROM t0", Talk.row(-2147483648), Talk.row(-1), Talk.row(1), Talk.row(3),
                Talk.row(5), Talk.row(9), Talk.row(2147483647));
    }

    private void noRows() {
        Talk talk = new Talk(check, "CREATE t3 4", "CREATE t4 1", "INSERT t4 1");
        talk.selected("SELECT ALL FROM t3");
        talk.selected("SELECT ALL FROM t3 FALLING");
        talk.selected("SELECT ALL FROM t4", Talk.row(1));
        talk.selected("SELECT ALL FROM t4 FALLING", Talk.row(1));
    }

    private void falling() {
        Talk talk = squares();
        talk.done("INSERT t0 2147483647 0", "INSERT t0 -2147483648 0");
        talk.selected("SELECT c0 FROM t0 FALLING", Talk.row(2147483647), Talk.row(9), Talk.row(5), Talk.row(3),
                Talk.row(1), Talk.row(-2147483648));
        talk.selected("SELECT c0 FROM t0 WHERE c1 ABOVE 1 AND c1 BELOW 81 FALLING", Talk.row(5), Talk.row(3));
    }

    private Talk twoByTwo() {
        return new Talk(check, "CREATE t0 1", "CREATE t1 2", "INSERT t0 2", "INSERT t0 1", "INSERT t1 7 1", "INSERT t1 6 2");
    }

    private void twoTables() {
        Talk talk = twoByTwo();
        talk.selected("SELECT ALL FROM t0 t1", Talk.row(1, 6, 2), Talk.row(1, 7, 1), Talk.row(2, 6, 2), Talk.row(2, 7, 1));
        talk.selected("SELECT ALL FROM t1 t0", Talk.row(6, 2, 1), Talk.row(6, 2, 2), Talk.row(7, 1, 1), Talk.row(7, 1, 2));
    }

    private void twoTablesFalling() {
        Talk talk = twoByTwo();
        talk.selected("SELECT ALL FROM t1 t0 FALLING", Talk.row(7, 1, 2), Talk.row(7, 1, 1), Talk.row(6, 2, 2),
                Talk.row(6, 2, 1));
    }

    private void twoTablesOfWhichOneIsEmpty() {
        Talk talk = twoByTwo();
        talk.done("CREATE t2 3", "CREATE t3 3");
        for (String order : new String[] {"", " FALLING"}) {
            talk.selected("SELECT ALL FROM t0 t2" + order);
            talk.selected("SELECT ALL FROM t2 t0" + order);
            talk.selected("SELECT ALL FROM t2 t3" + order);
        }
    }

    private void sameTableTwice() {
        Talk talk = twoByTwo();
        talk.selected("SELECT ALL FROM t0 t0", Talk.row(1, 1), Talk.row(1, 2), Talk.row(2, 1), Talk.row(2, 2));
        talk.selected("SELECT c10 c0 FROM t0 t0 FALLING", Talk.row(2, 2), Talk.row(1, 2), Talk.row(2, 1), Talk.row(1, 1));
        talk.selected("SELECT c0 c10 FROM t0 t0 WHERE c10 ABOVE c0", Talk.row(1, 2));
        talk.done("CREATE t2 1");
        talk.selected("SELECT ALL FROM t2 t2");
    }

    private void allConditions() {
        Talk talk = twoByTwo();
        talk.selected("SELECT c10 c0 FROM t0 t1 WHERE c0 IS c11", Talk.row(7, 1), Talk.row(6, 2));
        talk.selected("SELECT c10 c0 FROM t0 t1 WHERE c0 IS c11 AND c10 ABOVE 6", Talk.row(7, 1));
        talk.selected("SELECT c10 c0 FROM t0 t1 WHERE c10 ABOVE 6 AND c0 IS c11", Talk.row(7, 1));
        talk.selected("SELECT ALL FROM t1 t1 WHERE c0 IS 7 AND 7 ABOVE c10", Talk.row(7, 1, 6, 2));
    }

    private void noRowIsLeft() {
        Talk talk = twoByTwo();
        talk.selected("SELECT ALL FROM t0 WHERE c0 IS 3");
        talk.selected("SELECT ALL FROM t0 WHERE 1 IS 1 AND 1 IS 2 FALLING");
        talk.selected("SELECT ALL FROM t0 t1 WHERE c0 ABOVE c10");
    }

    private void listAll() {
        Talk talk = new Talk(check, "CREATE t0 6", "CREATE t1 1", "INSERT t0 1 2 3 4 5 6", "INSERT t1 9");
        talk.selected("SELECT ALL FROM t1", Talk.row(9));
        talk.selected("SELECT ALL FROM t0", Talk.row(1, 2, 3, 4, 5, 6));
        talk.selected("SELECT ALL FROM t1 t1", Talk.row(9, 9));
        talk.selected("SELECT ALL FROM t0 t1", Talk.row(1, 2, 3, 4, 5, 6, 9));
        talk.selected("SELECT ALL FROM t1 t0", Talk.row(9, 1, 2, 3, 4, 5, 6));
        talk.selected("SELECT ALL FROM t0 t0", Talk.row(1, 2, 3, 4, 5, 6, 1, 2, 3, 4, 5, 6));
    }

    private void listOfColumns() {
        Talk talk = new Talk(check, "CREATE t0 6", "CREATE t1 2", "INSERT t0 1 2 3 4 5 6", "INSERT t1 7 8");
        talk.selected("SELECT c5 FROM t0", Talk.row(6));
        talk.selected("SELECT c1 c0 c1 FROM t0", Talk.row(2, 1, 2));
        talk.selected("SELECT c11 c0 c10 c5 c10 c1 c11 c4 FROM t0 t1", Talk.row(8, 1, 7, 6, 7, 2, 8, 5));
        talk.selected("SELECT c3 c3 c3 c3 c3 c3 c3 c3 FROM t0", Talk.row(4, 4, 4, 4, 4, 4, 4, 4));
    }

    private void listTooShortOrTooLong() {
        Talk talk = new Talk(check, "CREATE t0 1");
        talk.prepared("SELECT FROM t0", SYNTAX);
        for (int n = 1; n <= 14; n++) {
            talk.prepared("SELECT" + " c0".repeat(n) + " FROM t0", n <= 8 ? 0 : SYNTAX);
        }
    }

    private void count() {
        Talk talk = squares();
        talk.selected("SELECT COUNT FROM t0", Talk.row(4));
        talk.selected("SELECT COUNT FROM t0 WHERE c0 ABOVE 3 FALLING", Talk.row(2));
        talk.selected("SELECT COUNT FROM t0 t0", Talk.row(16));
        Talk.full(check, 1).selected("SELECT COUNT FROM t0 t0", Talk.row(160000));
    }

    private void countOfNone() {
        Talk talk = squares();
        talk.done("CREATE t1 1");
        talk.selected("SELECT COUNT FROM t1", Talk.row(0));
        talk.selected("SELECT COUNT FROM t1 t1", Talk.row(0));
        talk.selected("SELECT COUNT FROM t0 t1", Talk.row(0));
        talk.selected("SELECT COUNT FROM t0 WHERE c0 IS 2", Talk.row(0));
    }

    private void sum() {
        Talk talk = squares();
        talk.selected("SELECT SUM c1 FROM t0", Talk.row(116));
        talk.selected("SELECT SUM c0 FROM t0 WHERE c0 BELOW 4 FALLING", Talk.row(4));
        talk.selected("SELECT SUM c10 FROM t0 t0 WHERE c0 IS 1", Talk.row(18));
        talk.selected("SELECT SUM c0 FROM t0 t0 WHERE c0 IS 5", Talk.row(20));
        talk.done("INSERT t0 -18 0");
        talk.selected("SELECT SUM c0 FROM t0", Talk.row(0));
    }

    private void sumBeyondInts() {
        Talk talk = new Talk(check, "CREATE t1 2", "INSERT t1 2147483647 -2147483648", "INSERT t1 2147483646 -2147483648");
        talk.selected("SELECT SUM c0 FROM t1", Talk.row(4294967293L));
        talk.selected("SELECT SUM c1 FROM t1", Talk.row(-4294967296L));
        talk.selected("SELECT SUM c0 FROM t1 t1", Talk.row(8589934586L));
        talk.selected("SELECT SUM c11 FROM t1 t1", Talk.row(-8589934592L));
    }

    private void sumOfNone() {
        Talk talk = squares();
        talk.done("CREATE t1 1");
        talk.selected("SELECT SUM c0 FROM t1", Talk.row(0));
        talk.selected("SELECT SUM c1 FROM t0 t1", Talk.row(0));
        talk.selected("SELECT SUM c0 FROM t0 WHERE c0 IS 2", Talk.row(0));
    }

    private static String conditions(int count, String condition) {
        return count == 0 ? "" : " WHERE " + condition + (" AND " + condition).repeat(count - 1);
    }

    private void eightConditions() {
        Talk talk = squares();
        for (int n = 0; n <= 8; n++) {
            talk.prepared("SELECT c0 FROM t0" + conditions(n, "c0 IS 3"), 0);
            talk.step("of " + n + " conditions", 1);
            check.same("column(0) of " + n + " conditions", talk.base.column(0), n == 0 ? 1 : 3);
            talk.prepared("SELECT c0 FROM t0 t0" + conditions(n, "c0 IS c10") + " FALLING", 0);
        }
        talk.done("DELETE t0" + conditions(8, "c0 IS 3"));
        talk.rows(0, 3);
    }

    private void nineConditions() {
        Talk talk = squares();
        for (int n = 9; n <= 10; n++) {
            talk.prepared("SELECT c0 FROM t0" + conditions(n, "c0 IS 3"), SYNTAX);
            talk.prepared("SELECT c0 FROM t0" + conditions(n, "c0 IS 3") + " FALLING", SYNTAX);
            talk.prepared("DELETE t0" + conditions(n, "c0 IS 3"), SYNTAX);
        }
        talk.rows(0, 4);
    }

    /** Seven conditions that hold for all rows, and one, at each place, that holds for one row. */
    private void eachOfEightCounts() {
        for (int place = 0; place < 8; place++) {
            StringBuilder text = new StringBuilder();
            for (int i = 0; i < 8; i++) {
                text.append(i == 0 ? " WHERE " : " AND ").append(i == place ? "c0 IS 5" : "c0 ABOVE 0");
            }
            Talk talk = squares();
            talk.selected("SELECT c1 FROM t0" + text, Talk.row(25));
            talk.done("DELETE t0" + text);
            talk.selected("SELECT c1 FROM t0", Talk.row(1), Talk.row(9), Talk.row(81));
        }
    }

    private void comparisons() {
        Talk talk = new Talk(check, "CREATE t0 1", "INSERT t0 4", "INSERT t0 5", "INSERT t0 6");
        talk.selected("SELECT ALL FROM t0 WHERE c0 IS 5", Talk.row(5));
        talk.selected("SELECT ALL FROM t0 WHERE c0 BELOW 5", Talk.row(4));
        talk.selected("SELECT ALL FROM t0 WHERE c0 ABOVE 5", Talk.row(6));
        talk.selected("SELECT ALL FROM t0 WHERE 5 BELOW c0", Talk.row(6));
        talk.selected("SELECT ALL FROM t0 WHERE 5 ABOVE c0", Talk.row(4));
    }

    private void comparisonsAtTheEnds() {
        Talk talk = new Talk(check, "CREATE t0 1", "INSERT t0 -2147483648", "INSERT t0 0", "INSERT t0 2147483647");
        talk.selected("SELECT ALL FROM t0 WHERE c0 BELOW 1", Talk.row(-2147483648), Talk.row(0));
        talk.selected("SELECT ALL FROM t0 WHERE c0 ABOVE -1", Talk.row(0), Talk.row(2147483647));
        talk.selected("SELECT ALL FROM t0 WHERE c0 ABOVE -2147483648", Talk.row(0), Talk.row(2147483647));
        talk.selected("SELECT ALL FROM t0 WHERE c0 BELOW 2147483647", Talk.row(-2147483648), Talk.row(0));
        talk.selected("SELECT ALL FROM t0 WHERE -2147483648 ABOVE c0");
        talk.selected("SELECT ALL FROM t0 WHERE 2147483647 BELOW c0");
        talk.selected("SELECT ALL FROM t0 WHERE c0 IS -2147483648", Talk.row(-2147483648));
        talk.selected("SELECT COUNT FROM t0 WHERE -2147483648 BELOW 2147483647", Talk.row(3));
    }

    private void operands() {
        Talk talk = new Talk(check, "CREATE t0 2", "INSERT t0 1 2", "INSERT t0 2 2", "INSERT t0 3 2");
        talk.selected("SELECT c0 FROM t0 WHERE c0 BELOW c1", Talk.row(1));
        talk.selected("SELECT c0 FROM t0 WHERE c0 IS c1", Talk.row(2));
        talk.selected("SELECT c0 FROM t0 WHERE c0 ABOVE c1", Talk.row(3));
        talk.selected("SELECT COUNT FROM t0 WHERE c0 IS c0", Talk.row(3));
        talk.selected("SELECT COUNT FROM t0 WHERE c0 BELOW c0", Talk.row(0));
        talk.selected("SELECT COUNT FROM t0 WHERE 3 IS 3", Talk.row(3));
        talk.selected("SELECT COUNT FROM t0 WHERE 3 ABOVE 3", Talk.row(0));
        talk.selected("SELECT COUNT FROM t0 WHERE 3 BELOW 3", Talk.row(0));
    }
}
