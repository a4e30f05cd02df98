/** Promise 3: prepare, with what is wrong with a statement. */
final class PrepareTest {
    private static final int SYNTAX = -1;
    private static final int NO_TABLE = -2;
    private static final int NO_COLUMN = -3;
    private static final int EXISTS = -4;
    private static final int ARITY = -5;

    /** t0 and t1, of two columns and of six, are there; t2 is not. */
    private static Talk twoTables(Check check) {
        Talk talk = new Talk(check);
        talk.done("CREATE t0 2", "CREATE t1 6");
        return talk;
    }

    public static void main(String[] args) {
        Check check = new Check();
        syntaxOfRightOnes(check);
        syntaxOfCreateAndInsert(check);
        syntaxOfDelete(check);
        syntaxOfSelect(check);
        mostListedAndConditions(check);
        namesAndArity(check);
        firstFaultIsTold(check);
        wrongOneLeavesTheStatement(check);
        rightOneBeginsAnew(check);
        check.end();
    }

    /** A new object for each statement, as an object is good for 512 calls alone. */
    private static void each(Check check, int due, String... statements) {
        for (String statement : statements) {
            twoTables(check).prepared(statement, due);
        }
    }

    private static void syntaxOfRightOnes(Check check) {
        String[] right = {"CREATE t9 1", "CREATE t2 6", "INSERT t0 1 2", "INSERT t1 1 2 3 4 5 6", "DELETE t0",
            "DELETE t0 WHERE c0 IS 1", "DELETE t0 WHERE 1 IS 1 AND c0 BELOW c1 AND 3 ABOVE c1",
            "SELECT ALL FROM t0", "SELECT ALL FROM t0 t1", "SELECT ALL FROM t1 t1", "SELECT ALL FROM t0 FALLING",
            "SELECT ALL FROM t0 t0 FALLING", "SELECT c1 FROM t0", "SELECT c1 c1 c11 FROM t0 t0",
            "SELECT COUNT FROM t0", "SELECT COUNT FROM t0 t1 WHERE c15 IS c1 FALLING", "SELECT SUM c1 FROM t0",
            "SELECT SUM c15 FROM t0 t1 WHERE c0 BELOW 2"};
        each(check, 0, right);
    }

    private static void syntaxOfCreateAndInsert(Check check) {
        String[] wrong = {"", "CREATE", "CREATE t2", "CREATE 2 t2", "CREATE t2 c2", "CREATE t2 1 1", "CREATE c2 1",
            "CREATE t2 t2 1", "t2 1", "3", "c0", "CREATE t2 1 FALLING", "CREATE t2 1 WHERE 1 IS 1", "CREATE CREATE t2 1",
            "INSERT", "INSERT t0", "INSERT 1 2", "INSERT t0 c0", "INSERT t0 1 c1", "INSERT t0 1 2 WHERE 1 IS 1",
            "INSERT t0 1 2 t0", "INSERT t0 t0 1 2", "INSERT t0 1 2 INSERT t0 3 4", "ALL", "FROM t0", "FALLING",
            "COUNT FROM t0", "WHERE c0 IS 1", "AND t0", "ALL FROM t0", "IS", "BELOW", "ABOVE t0 1", "SUM c0 FROM t0"};
        each(check, SYNTAX, wrong);
    }

    private static void syntaxOfDelete(Check check) {
        String[] wrong = {"DELETE", "DELETE 0", "DELETE FROM t0", "DELETE t0 t1", "DELETE t0 FALLING", "DELETE t0 1",
            "DELETE t0 c0 IS 1", "DELETE t0 WHERE", "DELETE t0 WHERE c0", "DELETE t0 WHERE c0 IS",
            "DELETE t0 WHERE IS 1", "DELETE t0 WHERE c0 1", "DELETE t0 WHERE c0 IS t0", "DELETE t0 WHERE t0 IS c0",
            "DELETE t0 WHERE c0 IS IS 1", "DELETE t0 WHERE c0 IS 1 c1", "DELETE t0 WHERE c0 AND 1",
            "DELETE t0 WHERE c0 FALLING 1", "DELETE t0 AND c0 IS 1", "DELETE t0 WHERE c0 IS 1 AND",
            "DELETE t0 WHERE c0 IS 1 WHERE c0 IS 1", "DELETE t0 WHERE c0 IS 1 c1 IS 1",
            "DELETE t0 WHERE c0 IS 1 AND WHERE c1 IS 1", "DELETE t0 WHERE c0 IS 1 FALLING", "DELETE ALL t0"};
        each(check, SYNTAX, wrong);
    }

    private static void syntaxOfSelect(Check check) {
        String[] wrong = {"SELECT", "SELECT ALL", "SELECT ALL FROM", "SELECT FROM t0", "SELECT ALL t0", "SELECT t0",
            "SELECT ALL FROM 0", "SELECT ALL FROM c0", "SELECT ALL ALL FROM t0", "SELECT ALL c0 FROM t0",
            "SELECT c0 ALL FROM t0", "SELECT COUNT c0 FROM t0", "SELECT c0 COUNT FROM t0", "SELECT SUM FROM t0",
            "SELECT SUM 1 FROM t0", "SELECT SUM c0 c1 FROM t0", "SELECT SUM ALL FROM t0", "SELECT 1 FROM t0",
            "SELECT c0 1 FROM t0", "SELECT ALL FROM t0 t0 t0", "SELECT ALL FROM t0 FALLING FALLING",
            "SELECT ALL FROM t0 FALLING WHERE c0 IS 1", "SELECT ALL FROM t0 FALLING t0", "SELECT ALL FROM t0 1",
            "SELECT ALL FROM t0 WHERE FALLING", "SELECT ALL FROM t0 WHERE c0 IS FALLING", "SELECT ALL FROM FALLING",
            "SELECT ALL FROM t0 WHERE c0 IS 1 t0", "SELECT ALL FROM t0 AND c0 IS 1", "SELECT ALL FROM WHERE t0",
            "SELECT ALL FROM t0 SELECT ALL FROM t0", "SELECT SELECT ALL FROM t0", "SELECT COUNT SUM c0 FROM t0",
            "SELECT ALL FROM t0 FROM t0", "SELECT ALL WHERE c0 IS 1 FROM t0"};
        each(check, SYNTAX, wrong);
    }

    private static void mostListedAndConditions(Check check) {
        Talk talk = twoTables(check);
        String eight = "c0 c1 c0 c1 c0 c1 c0 c1";
        talk.prepared("SELECT " + eight + " FROM t0", 0);
        talk.prepared("SELECT " + eight + " c0 FROM t0", SYNTAX);
        String conditions = "WHERE 1 IS 1" + " AND c0 BELOW c1".repeat(7);
        talk.prepared("SELECT " + eight + " FROM t0 t1 " + conditions + " FALLING", 0);
        talk.prepared("DELETE t0 " + conditions, 0);
        talk.prepared("SELECT ALL FROM t0 " + conditions + " AND 1 IS 1", SYNTAX);
        talk.prepared("SELECT ALL FROM t0 " + conditions + " AND 1 IS 1 FALLING", SYNTAX);
        talk.prepared("DELETE t0 " + conditions + " AND 1 IS 1", SYNTAX);
        talk.prepared("INSERT t0" + " 1".repeat(58), ARITY);
        talk.prepared("INSERT t0" + " 1".repeat(57) + " c0", SYNTAX);
    }

    private static void namesAndArity(Check check) {
        String[] tables = {"INSERT t2 1", "DELETE t2", "SELECT ALL FROM t2", "SELECT ALL FROM t0 t2",
            "SELECT ALL FROM t2 t0", "SELECT COUNT FROM t9", "DELETE t2 WHERE c0 IS 1"};
        each(check, NO_TABLE, tables);
        String[] columns = {"DELETE t0 WHERE c2 IS 1", "DELETE t0 WHERE 1 IS c2", "DELETE t0 WHERE c10 IS 1",
            "DELETE t0 WHERE c0 IS 1 AND 1 BELOW c15", "SELECT c2 FROM t0", "SELECT c0 c1 c5 FROM t0",
            "SELECT c10 FROM t0", "SELECT c12 FROM t1 t0", "SELECT c2 FROM t0 t1", "SELECT SUM c2 FROM t0",
            "SELECT SUM c10 FROM t0", "SELECT SUM c12 FROM t1 t0", "SELECT ALL FROM t0 WHERE c11 IS 1",
            "SELECT COUNT FROM t1 t0 WHERE 1 ABOVE c12", "SELECT ALL FROM t0 t1 WHERE c5 IS c15"};
        each(check, NO_COLUMN, columns);
        each(check, EXISTS, "CREATE t0 1", "CREATE t1 2");
        String[] arities = {"CREATE t2 0", "CREATE t2 7", "CREATE t2 -1", "CREATE t2 -2147483648",
            "CREATE t2 2147483647", "INSERT t0 1", "INSERT t0 1 2 3", "INSERT t1 1 2 3 4 5", "INSERT t1 1 2 3 4 5 6 7"};
        each(check, ARITY, arities);
    }

    private static void firstFaultIsTold(Check check) {
        Talk talk = twoTables(check);
        talk.prepared("CREATE t0 9 9", SYNTAX);
        talk.prepared("CREATE t0 9", EXISTS);
        talk.prepared("INSERT t2 1 2 3 4 5 6 7 8", NO_TABLE);
        talk.prepared("INSERT t2 c0", SYNTAX);
        talk.prepared("SELECT c5 FROM t0 t2", NO_TABLE);
        talk.prepared("SELECT c5 FROM t2 WHERE", SYNTAX);
        talk.prepared("DELETE t2 WHERE c15 IS 1", NO_TABLE);
    }

    private static void wrongOneLeavesTheStatement(Check check) {
        Talk talk = twoTables(check);
        talk.done("INSERT t0 1 10", "INSERT t0 2 20", "INSERT t0 3 30");
        talk.prepared("SELECT c1 FROM t0", 0);
        check.same("step()", talk.base.step(), 1);
        talk.prepared("SELECT ALL FROM t7", NO_TABLE);
        check.same("column(0) of the row that was given before", talk.base.column(0), 10);
        talk.prepared("", SYNTAX);
        talk.prepared("SELECT c2 c2 FROM t0", NO_COLUMN);
        talk.prepared("CREATE t0 1", EXISTS);
        talk.prepared("INSERT t0 1", ARITY);
        talk.gives("the statement before the wrong ones", Talk.row(20), Talk.row(30));
        check.same("reset()", talk.base.reset(), 3);
        talk.prepared("SELECT", SYNTAX);
        check.throwsState("column(0) at the beginning", () -> talk.base.column(0));
        check.same("reset() at the beginning", talk.base.reset(), 0);
    }

    private static void rightOneBeginsAnew(Check check) {
        Talk talk = twoTables(check);
        talk.done("INSERT t0 1 10", "INSERT t0 2 20");
        for (int i = 0; i < 2; i++) {
            talk.prepared("SELECT ALL FROM t0", 0);
            check.throwsState("column(0) before a step", () -> talk.base.column(0));
            check.same("step()", talk.base.step(), 1);
            talk.isOn("the first row", 1, 10);
        }
        talk.prepared("SELECT c1 FROM t0", 0);
        check.same("reset() of a new statement", talk.base.reset(), 0);
        check.same("rows(0) when nothing has been stepped", talk.base.rows(0), 2);
        talk.prepared("INSERT t0 3 30", 0);
        talk.prepared("CREATE t5 3", 0);
        check.same("all() when nothing has been stepped", talk.base.all(), 2);
        check.same("rows(5) when nothing has been stepped", talk.base.rows(5), CursorBase.NONE);
    }
}
