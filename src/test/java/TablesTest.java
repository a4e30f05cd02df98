/** Terms: TABLES, and the constants. */
final class TablesTest {
    private static final int ARITY = -5;

    private final Check check = new Check();

    public static void main(String[] args) {
        new TablesTest().sentences();
    }

    private void sentences() {
        check.sentence("TABLES are 0 .. 9", this::tenTables, this::noTableBeforeOrBehindThem);
        check.sentence("there or not (none at first)", this::noneAtFirst, this::oneIsThereAlone);
        check.sentence("with 1 .. 6 COLUMNS", this::oneToSixColumns, this::fewerOrMoreColumns);
        check.sentence("of ints", this::columnsOfInts);
        check.sentence("the first one is the KEY", this::firstColumnIsTheKey);
        check.sentence("no two rows of a table have the same", this::noTwoOfOneKey, this::keyIsFreeElsewhere);
        check.sentence("All tables have at most 400 rows together.", this::allInOneTable, this::allInTenTables,
                this::noneForTheTableThatIsEmpty, this::roomAgainBehindDelete);
        check.sentence("`NONE = -1`: There is none.", this::none);
        check.end();
    }

    private void tenTables() {
        Talk talk = new Talk(check);
        for (int t = 0; t <= 9; t++) {
            talk.done("CREATE t" + t + " 1", "INSERT t" + t + " " + 10 * t);
        }
        for (int t = 0; t <= 9; t++) {
            talk.selected("SELECT ALL FROM t" + t, Talk.row(10 * t));
        }
    }

    private void noTableBeforeOrBehindThem() {
        CursorBase base = new CursorBase();
        for (int t : new int[] {-1, 10}) {
            check.throwsArgument("feed(1, " + t + ")", () -> base.feed(1, t));
            check.throwsArgument("rows(" + t + ")", () -> base.rows(t));
            check.throwsArgument("nearest(" + t + ", 0, true)", () -> base.nearest(t, 0, true));
        }
    }

    private void noneAtFirst() {
        Talk talk = new Talk(check);
        for (int t = 0; t <= 9; t++) {
            talk.rows(t, -1);
            talk.prepared("DELETE t" + t, -2);
        }
    }

    private void oneIsThereAlone() {
        for (int t = 0; t <= 9; t++) {
            Talk talk = new Talk(check, "CREATE t" + t + " 3");
            for (int u = 0; u <= 9; u++) {
                talk.rows(u, u == t ? 0 : -1);
            }
        }
    }

    private void oneToSixColumns() {
        Talk talk = new Talk(check);
        String row = "";
        for (int n = 1; n <= 6; n++) {
            row += " " + n;
            talk.done("CREATE t" + n + " " + n, "INSERT t" + n + row);
            talk.prepared("SELECT ALL FROM t" + n, 0);
            talk.step("to the row", 1);
            check.same("width() of " + n + " columns", talk.base.width(), n);
            check.same("the last of " + n + " columns", talk.base.column(n - 1), n);
        }
    }

    private void fewerOrMoreColumns() {
        Talk talk = new Talk(check);
        for (int n : new int[] {0, 7, -1, 8, Integer.MIN_VALUE, Integer.MAX_VALUE}) {
            talk.prepared("CREATE t0 " + n, ARITY);
            talk.rows(0, -1);
        }
    }

    private void columnsOfInts() {
        Talk talk = new Talk(check, "CREATE t0 6");
        talk.done("INSERT t0 2147483647 -2147483648 -1 0 1 2147483647");
        talk.done("INSERT t0 -2147483648 2147483647 1 0 -1 -2147483648");
        talk.selected("SELECT ALL FROM t0", Talk.row(-2147483648, 2147483647, 1, 0, -1, -2147483648),
                Talk.row(2147483647, -2147483648, -1, 0, 1, 2147483647));
    }

    private void firstColumnIsTheKey() {
        Talk talk = new Talk(check, "CREATE t0 3", "INSERT t0 1 9 9", "INSERT t0 2 9 9", "INSERT t0 9 1 2");
        talk.rows(0, 3);
        check.same("nearest(0, 3, true)", talk.base.nearest(0, 3, true), 9);
        talk.stepped("INSERT t0 9 9 9", -1);
    }

    private void noTwoOfOneKey() {
        for (String key : new String[] {"0", "-1", "2147483647", "-2147483648"}) {
            Talk talk = new Talk(check, "CREATE t0 2", "INSERT t0 5 55", "INSERT t0 " + key + " 7");
            talk.stepped("INSERT t0 " + key + " 8", -1);
            talk.rows(0, 2);
            talk.selected("SELECT c1 FROM t0 WHERE c0 IS " + key, Talk.row(7));
        }
    }

    private void keyIsFreeElsewhere() {
        Talk talk = new Talk(check, "CREATE t0 1", "CREATE t1 1", "CREATE t2 1", "INSERT t1 5");
        talk.done("INSERT t0 5", "INSERT t2 5");
        talk.done("DELETE t1 WHERE c0 IS 5", "INSERT t1 5");
        talk.all(3);
    }

    private void isFull(Talk talk, int count) {
        talk.all(400);
        for (int t = 0; t < count; t++) {
            talk.rows(t, 400 / count);
            talk.stepped("INSERT t" + t + " 400 0", -2);
            talk.rows(t, 400 / count);
            talk.selected("SELECT COUNT FROM t" + t + " WHERE c0 BELOW 400", Talk.row(400 / count));
        }
        talk.all(400);
    }

    private void allInOneTable() {
        Talk talk = Talk.full(check, 1);
        isFull(talk, 1);
        talk.prepared("SELECT ALL FROM t0", 0);
        for (int key = 0; key < 400; key++) {
            talk.step("to a row of 400", 1);
            talk.isOn("a row of 400", key, 2 * key);
        }
        talk.step("behind 400 rows", 0);
    }

    private void allInTenTables() {
        Talk talk = Talk.full(check, 10);
        isFull(talk, 10);
        for (int t = 0; t < 10; t++) {
            talk.selected("SELECT SUM c1 FROM t" + t, Talk.row(2 * (40 * t + 10 * 39 * 40 / 2)));
        }
    }

    private void noneForTheTableThatIsEmpty() {
        Talk talk = Talk.full(check, 2);
        talk.done("CREATE t9 2");
        talk.stepped("INSERT t9 1 1", -2);
        talk.rows(9, 0);
    }

    private void roomAgainBehindDelete() {
        Talk talk = Talk.full(check, 4);
        talk.done("DELETE t3 WHERE c0 IS 399");
        talk.all(399);
        talk.done("INSERT t0 500 0");
        talk.all(400);
        talk.stepped("INSERT t3 399 0", -2);
        talk.all(400);
    }

    private void none() {
        check.same("NONE", CursorBase.NONE, -1);
    }
}
