/** Promise 4: step, with what the statements do. */
final class StepTest {
    private static Talk squares(Check check) {
        Talk talk = new Talk(check);
        talk.done("CREATE t0 2");
        for (int key : new int[] {5, 1, 9, 3}) {
            talk.done("INSERT t0 " + key + " " + key * key);
        }
        return talk;
    }

    public static void main(String[] args) {
        Check check = new Check();
        check.throwsState("step() without a statement", new CursorBase()::step);
        create(check);
        insert(check);
        insertAtTheMostRows(check);
        deleteRows(check);
        selectInOrder(check);
        selectOfTwoTables(check);
        selectTotals(check);
        comparisons(check);
        endsAgainAndAgain(check);
        check.end();
    }

    private static void create(Check check) {
        Talk talk = new Talk(check);
        talk.done("CREATE t9 6");
        check.same("rows(9)", talk.base.rows(9), 0);
        check.same("step() at the end of CREATE", talk.base.step(), 0);
        talk.done("INSERT t9 1 2 3 4 5 6");
        talk.prepared("CREATE t8 1", 0);
        check.same("step()", talk.base.step(), 0);
        talk.base.reset();
        check.same("step() of CREATE once more", talk.base.step(), -3);
        check.same("step() behind -3", talk.base.step(), 0);
        check.same("reset() behind -3", talk.base.reset(), 0);
        check.same("rows(8)", talk.base.rows(8), 0);
        check.same("rows(9) as it was", talk.base.rows(9), 1);
        talk.selected("SELECT ALL FROM t9", Talk.row(1, 2, 3, 4, 5, 6));
    }

    private static void insert(Check check) {
        Talk talk = squares(check);
        talk.stepped("INSERT t0 5 7", -1);
        check.same("step() behind -1", talk.base.step(), 0);
        talk.prepared("INSERT t0 4 16", 0);
        check.same("step()", talk.base.step(), 0);
        check.same("step() at the end of INSERT", talk.base.step(), 0);
        check.same("rows(0)", talk.base.rows(0), 5);
        check.same("reset()", talk.base.reset(), 0);
        check.same("step() of INSERT once more", talk.base.step(), -1);
        talk.done("DELETE t0 WHERE c0 IS 4", "INSERT t0 4 0");
        talk.done("INSERT t0 -2147483648 1", "INSERT t0 2147483647 2");
        talk.selected("SELECT ALL FROM t0", Talk.row(-2147483648, 1), Talk.row(1, 1), Talk.row(3, 9),
                Talk.row(4, 0), Talk.row(5, 25), Talk.row(9, 81), Talk.row(2147483647, 2));
        talk.done("CREATE t1 1", "INSERT t1 5");
        check.same("the same key in another table", talk.base.rows(1), 1);
    }

    /** More calls than an object is promised to take, but there is no other way to 400 rows. */
    private static void insertAtTheMostRows(Check check) {
        Talk talk = new Talk(check);
        talk.done("CREATE t0 6", "CREATE t4 6");
        for (int i = 0; i < 400; i++) {
            talk.done("INSERT t" + i % 2 * 4 + " " + i * 37 % 400 + " 1 2 3 4 " + i);
        }
        check.same("all()", talk.base.all(), 400);
        talk.stepped("INSERT t4 400 0 0 0 0 0", -2);
        check.same("step() behind -2", talk.base.step(), 0);
        check.same("reset() behind -2", talk.base.reset(), 0);
        check.same("step() once more", talk.base.step(), -2);
        talk.stepped("INSERT t0 0 0 0 0 0 0", -1);
        check.same("all() as it was", talk.base.all(), 400);
        talk.selected("SELECT SUM c5 FROM t0", Talk.row(199 * 200));
        talk.selected("SELECT SUM c5 FROM t4", Talk.row(200 * 200));
        talk.selected("SELECT COUNT FROM t0 t4", Talk.row(200 * 200));
        talk.selected("SELECT COUNT FROM t4 t4 WHERE c0 BELOW c10", Talk.row(199 * 100));
        talk.done("DELETE t0 WHERE c0 IS 0", "INSERT t4 400 0 0 0 0 0");
        talk.stepped("INSERT t0 0 0 0 0 0 0", -2);
        talk.done("DELETE t0", "DELETE t4");
        check.same("all() at last", talk.base.all(), 0);
    }

    private static void deleteRows(Check check) {
        Talk talk = squares(check);
        talk.done("CREATE t1 1", "INSERT t1 3", "INSERT t1 4", "CREATE t2 1", "INSERT t2 8");
        talk.done("DELETE t0 WHERE c0 ABOVE 1 AND c1 BELOW 26");
        check.same("step() at the end of DELETE", talk.base.step(), 0);
        talk.selected("SELECT ALL FROM t0", Talk.row(1, 1), Talk.row(9, 81));
        talk.selected("SELECT ALL FROM t1", Talk.row(3), Talk.row(4));
        talk.done("DELETE t1 WHERE c0 IS 99");
        check.same("rows(1)", talk.base.rows(1), 2);
        talk.done("DELETE t1");
        check.same("reset() of DELETE", talk.base.reset(), 0);
        check.same("step() of DELETE once more", talk.base.step(), 0);
        check.same("rows(1)", talk.base.rows(1), 0);
        talk.done("DELETE t0 WHERE 1 IS 2", "DELETE t0 WHERE c0 IS c1");
        talk.selected("SELECT ALL FROM t0", Talk.row(9, 81));
        talk.selected("SELECT ALL FROM t2", Talk.row(8));
        talk.selected("SELECT ALL FROM t1");
    }

    private static void selectInOrder(Check check) {
        Talk talk = squares(check);
        talk.selected("SELECT ALL FROM t0", Talk.row(1, 1), Talk.row(3, 9), Talk.row(5, 25), Talk.row(9, 81));
        talk.selected("SELECT c1 c0 c1 FROM t0 FALLING", Talk.row(81, 9, 81), Talk.row(25, 5, 25),
                Talk.row(9, 3, 9), Talk.row(1, 1, 1));
        talk.selected("SELECT c0 FROM t0 WHERE c1 ABOVE 1 AND c1 BELOW 81 FALLING", Talk.row(5), Talk.row(3));
        talk.selected("SELECT c0 FROM t0 WHERE c0 IS 2");
        talk.done("CREATE t3 4");
        talk.selected("SELECT ALL FROM t3");
        check.same("width() of no rows", talk.base.width(), 4);
        talk.selected("SELECT ALL FROM t3 FALLING");
    }

    private static void selectOfTwoTables(Check check) {
        Talk talk = new Talk(check);
        talk.done("CREATE t0 1", "CREATE t1 2", "INSERT t0 2", "INSERT t0 1", "INSERT t1 7 1", "INSERT t1 6 2");
        talk.selected("SELECT ALL FROM t0 t1", Talk.row(1, 6, 2), Talk.row(1, 7, 1), Talk.row(2, 6, 2), Talk.row(2, 7, 1));
        talk.selected("SELECT ALL FROM t1 t0 FALLING", Talk.row(7, 1, 2), Talk.row(7, 1, 1), Talk.row(6, 2, 2),
                Talk.row(6, 2, 1));
        talk.selected("SELECT c10 c0 FROM t0 t1 WHERE c0 IS c11", Talk.row(7, 1), Talk.row(6, 2));
        talk.selected("SELECT c0 c10 FROM t0 t0 WHERE c10 ABOVE c0", Talk.row(1, 2));
        talk.selected("SELECT ALL FROM t1 t1 WHERE c0 IS 7 AND 7 ABOVE c10", Talk.row(7, 1, 6, 2));
        talk.done("CREATE t2 3");
        talk.selected("SELECT ALL FROM t0 t2");
        talk.selected("SELECT ALL FROM t2 t0");
        talk.selected("SELECT COUNT FROM t2 t2", Talk.row(0));
    }

    private static void selectTotals(Check check) {
        Talk talk = squares(check);
        talk.selected("SELECT COUNT FROM t0", Talk.row(4));
        talk.selected("SELECT COUNT FROM t0 WHERE c0 ABOVE 3 FALLING", Talk.row(2));
        talk.selected("SELECT COUNT FROM t0 t0", Talk.row(16));
        talk.selected("SELECT SUM c1 FROM t0", Talk.row(116));
        talk.selected("SELECT SUM c10 FROM t0 t0 WHERE c0 IS 1", Talk.row(18));
        talk.selected("SELECT SUM c0 FROM t0 WHERE c0 IS 2", Talk.row(0));
        talk.selected("SELECT COUNT FROM t0 WHERE c0 IS 2", Talk.row(0));
        talk.done("CREATE t1 1", "INSERT t1 2147483647", "INSERT t1 2147483646");
        talk.selected("SELECT SUM c0 FROM t1", Talk.row(4294967293L));
        talk.selected("SELECT SUM c0 FROM t1 t0", Talk.row(17179869172L));
        talk.done("DELETE t1", "INSERT t1 -2147483648", "INSERT t1 -2147483647");
        talk.selected("SELECT SUM c0 FROM t1", Talk.row(-4294967295L));
    }

    private static void comparisons(Check check) {
        Talk talk = new Talk(check);
        talk.done("CREATE t0 1", "INSERT t0 -2147483648", "INSERT t0 0", "INSERT t0 2147483647");
        talk.selected("SELECT ALL FROM t0 WHERE c0 BELOW 0", Talk.row(-2147483648));
        talk.selected("SELECT ALL FROM t0 WHERE c0 ABOVE 0", Talk.row(2147483647));
        talk.selected("SELECT ALL FROM t0 WHERE c0 IS 0", Talk.row(0));
        talk.selected("SELECT ALL FROM t0 WHERE 0 BELOW c0", Talk.row(2147483647));
        talk.selected("SELECT ALL FROM t0 WHERE -2147483648 ABOVE c0");
        talk.selected("SELECT ALL FROM t0 WHERE c0 ABOVE -2147483648", Talk.row(0), Talk.row(2147483647));
        talk.selected("SELECT COUNT FROM t0 WHERE -2147483648 BELOW 2147483647", Talk.row(3));
        talk.selected("SELECT COUNT FROM t0 WHERE 3 IS 3 AND 3 ABOVE 3", Talk.row(0));
        talk.selected("SELECT COUNT FROM t0 WHERE c0 IS c0", Talk.row(3));
        talk.selected("SELECT COUNT FROM t0 WHERE c0 BELOW c0", Talk.row(0));
        String seven = "WHERE 1 IS 1" + " AND 1 IS 1".repeat(6);
        talk.selected("SELECT COUNT FROM t0 " + seven + " AND c0 IS 0", Talk.row(1));
    }

    private static void endsAgainAndAgain(Check check) {
        Talk talk = squares(check);
        for (String statement : new String[] {"SELECT ALL FROM t0", "SELECT COUNT FROM t0", "SELECT SUM c0 FROM t0"}) {
            talk.prepared(statement, 0);
            for (int i = 0; i < 5 && talk.base.step() == 1; i++) {
                check.same("width() of a row", talk.base.width(), statement.contains("ALL") ? 2 : 1);
            }
            for (int i = 0; i < 3; i++) {
                check.same("step() behind the end of " + statement, talk.base.step(), 0);
            }
        }
    }
}
