/** Promise 7: column. */
final class ColumnTest {
    public static void main(String[] args) {
        Check check = new Check();
        CursorBase none = new CursorBase();
        check.throwsState("column(0) without a statement", () -> none.column(0));
        check.throwsState("column(-1) without a statement", () -> none.column(-1));
        Talk talk = new Talk(check);
        talk.done("CREATE t0 6", "INSERT t0 1 2 3 4 5 6", "CREATE t1 2", "INSERT t1 7 -8", "INSERT t1 9 10");
        values(talk);
        indexes(check, talk, "SELECT c0 c1 FROM t0", 2);
        indexes(check, talk, "SELECT ALL FROM t0 t0", 12);
        indexes(check, talk, "SELECT COUNT FROM t0", 1);
        indexes(check, talk, "SELECT SUM c0 FROM t0", 1);
        states(check, talk, "SELECT ALL FROM t0");
        states(check, talk, "SELECT COUNT FROM t0");
        noRowOfOthers(check, talk);
        staysWhileTokensAreFed(check, talk);
        check.end();
    }

    private static void values(Talk talk) {
        talk.selected("SELECT ALL FROM t0 t1", Talk.row(1, 2, 3, 4, 5, 6, 7, -8), Talk.row(1, 2, 3, 4, 5, 6, 9, 10));
        talk.selected("SELECT ALL FROM t1 t0", Talk.row(7, -8, 1, 2, 3, 4, 5, 6), Talk.row(9, 10, 1, 2, 3, 4, 5, 6));
        talk.selected("SELECT c15 c5 c10 c11 FROM t0 t0", Talk.row(6, 6, 1, 2));
        talk.selected("SELECT c11 c1 c10 c0 FROM t1 t1 WHERE c0 BELOW c10", Talk.row(10, -8, 9, 7));
        talk.selected("SELECT SUM c1 FROM t1", Talk.row(2));
    }

    private static void indexes(Check check, Talk talk, String statement, int width) {
        talk.prepared(statement, 0);
        check.same("step() of " + statement, talk.base.step(), 1);
        for (int i : new int[] {-1, width, 12, Integer.MIN_VALUE, Integer.MAX_VALUE}) {
            check.throwsIndex("column(" + i + ") of " + statement, () -> talk.base.column(i));
        }
        check.same("column(0) of " + statement, talk.base.column(0), 1);
    }

    private static void states(Check check, Talk talk, String statement) {
        talk.prepared(statement, 0);
        check.throwsState("column(0) before the first step", () -> talk.base.column(0));
        check.throwsState("column(99) before the first step", () -> talk.base.column(99));
        check.same("step()", talk.base.step(), 1);
        check.same("column(0)", talk.base.column(0), 1);
        check.same("column(0) again", talk.base.column(0), 1);
        check.same("step() to the end", talk.base.step(), 0);
        check.throwsState("column(0) at the end", () -> talk.base.column(0));
        check.throwsState("column(99) at the end", () -> talk.base.column(99));
        talk.base.reset();
        talk.base.step();
        talk.base.reset();
        check.throwsState("column(0) behind reset()", () -> talk.base.column(0));
        talk.base.step();
        talk.prepared(statement, 0);
        check.throwsState("column(0) behind prepare()", () -> talk.base.column(0));
    }

    private static void noRowOfOthers(Check check, Talk talk) {
        for (String statement : new String[] {"CREATE t2 1", "INSERT t2 5", "DELETE t2"}) {
            talk.done(statement);
            check.throwsState("column(0) of " + statement, () -> talk.base.column(0));
        }
    }

    private static void staysWhileTokensAreFed(Check check, Talk talk) {
        talk.prepared("SELECT ALL FROM t1", 0);
        check.same("step()", talk.base.step(), 1);
        talk.feed("SELECT COUNT FROM t0");
        check.same("column(1) while tokens are fed", talk.base.column(1), -8);
        check.same("prepare()", talk.base.prepare(), 0);
        check.throwsState("column(1) behind prepare()", () -> talk.base.column(1));
    }
}
