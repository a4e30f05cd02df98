/** Promise 5: reset. */
final class ResetTest {
    public static void main(String[] args) {
        Check check = new Check();
        check.throwsState("reset() without a statement", new CursorBase()::reset);
        Talk talk = new Talk(check);
        talk.done("CREATE t0 1", "INSERT t0 1", "INSERT t0 2", "INSERT t0 3");
        countsRowsSinceTheBeginning(check, talk);
        beginsAgain(check, talk);
        ofTotals(check, talk);
        ofWhatGivesNoRows(check, talk);
        staysOfTwoTables(check, talk);
        check.end();
    }

    private static void countsRowsSinceTheBeginning(Check check, Talk talk) {
        talk.prepared("SELECT ALL FROM t0", 0);
        check.same("reset() before a step", talk.base.reset(), 0);
        for (int steps = 0; steps < 6; steps++) {
            for (int i = 0; i < steps; i++) {
                talk.base.step();
            }
            check.same("reset() behind " + steps + " steps", talk.base.reset(), Math.min(steps, 3));
        }
        check.same("reset() behind reset()", talk.base.reset(), 0);
    }

    private static void beginsAgain(Check check, Talk talk) {
        talk.prepared("SELECT ALL FROM t0 FALLING", 0);
        talk.base.step();
        talk.base.step();
        talk.base.reset();
        check.throwsState("column(0) behind reset()", () -> talk.base.column(0));
        talk.gives("the statement behind reset()", Talk.row(3), Talk.row(2), Talk.row(1));
        check.same("reset() at the end", talk.base.reset(), 3);
        talk.gives("the statement behind its end and reset()", Talk.row(3), Talk.row(2), Talk.row(1));
        check.same("width() behind reset()", talk.base.width(), 1);
    }

    private static void ofTotals(Check check, Talk talk) {
        for (String statement : new String[] {"SELECT COUNT FROM t0", "SELECT SUM c0 FROM t0 WHERE c0 ABOVE 2"}) {
            talk.prepared(statement, 0);
            for (int i = 0; i < 2; i++) {
                talk.gives(statement, Talk.row(3));
                check.same("reset() of " + statement, talk.base.reset(), 1);
            }
            check.throwsState("column(0) behind reset()", () -> talk.base.column(0));
        }
    }

    private static void ofWhatGivesNoRows(Check check, Talk talk) {
        talk.prepared("INSERT t0 4", 0);
        check.same("reset() of INSERT that was not stepped", talk.base.reset(), 0);
        check.same("rows(0)", talk.base.rows(0), 3);
        check.same("step() of INSERT", talk.base.step(), 0);
        check.same("reset() of INSERT", talk.base.reset(), 0);
        check.same("step() of INSERT once more", talk.base.step(), -1);
        check.same("reset() behind -1", talk.base.reset(), 0);
        check.same("step() of INSERT yet once more", talk.base.step(), -1);
        check.same("rows(0)", talk.base.rows(0), 4);
        talk.done("DELETE t0 WHERE c0 IS 4");
        check.same("reset() of DELETE", talk.base.reset(), 0);
        talk.done("CREATE t1 1");
        check.same("reset() of CREATE", talk.base.reset(), 0);
    }

    private static void staysOfTwoTables(Check check, Talk talk) {
        talk.prepared("SELECT c0 c10 FROM t0 t0 WHERE c0 BELOW c10", 0);
        talk.base.step();
        talk.base.step();
        check.same("reset() in the middle", talk.base.reset(), 2);
        talk.gives("two tables behind reset()", Talk.row(1, 2), Talk.row(1, 3), Talk.row(2, 3));
        check.same("reset() at the end", talk.base.reset(), 3);
    }
}
