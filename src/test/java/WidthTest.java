/** Promise 6: width. */
final class WidthTest {
    public static void main(String[] args) {
        Check check = new Check();
        check.throwsState("width() without a statement", new CursorBase()::width);
        Talk talk = new Talk(check);
        talk.prepared("CREATE t0", -1);
        check.throwsState("width() behind a wrong statement", talk.base::width);
        has(check, talk, "CREATE t0 6", 0);
        talk.base.step();
        talk.done("CREATE t1 1", "CREATE t2 3");
        has(check, talk, "INSERT t0 1 2 3 4 5 6", 0);
        has(check, talk, "DELETE t0 WHERE c0 IS c1", 0);
        has(check, talk, "SELECT ALL FROM t0", 6);
        has(check, talk, "SELECT ALL FROM t1", 1);
        has(check, talk, "SELECT ALL FROM t0 t0", 12);
        has(check, talk, "SELECT ALL FROM t2 t1", 4);
        has(check, talk, "SELECT ALL FROM t1 t0 WHERE c0 IS c11 FALLING", 7);
        has(check, talk, "SELECT c0 FROM t0", 1);
        has(check, talk, "SELECT c0 c10 c0 FROM t0 t1", 3);
        has(check, talk, "SELECT c5 c5 c5 c5 c5 c5 c5 c5 FROM t0", 8);
        has(check, talk, "SELECT COUNT FROM t0 t2", 1);
        has(check, talk, "SELECT SUM c15 FROM t1 t0", 1);
        talk.prepared("SELECT ALL FROM t9", -2);
        check.same("width() of the statement before the wrong one", talk.base.width(), 1);
        staysTheSame(check, talk);
        check.end();
    }

    private static void has(Check check, Talk talk, String statement, int due) {
        talk.prepared(statement, 0);
        check.same("width() of '" + statement + "'", talk.base.width(), due);
    }

    private static void staysTheSame(Check check, Talk talk) {
        talk.done("INSERT t1 1");
        talk.prepared("SELECT ALL FROM t1 t1", 0);
        check.same("step()", talk.base.step(), 1);
        check.same("width() on a row", talk.base.width(), 2);
        check.same("step()", talk.base.step(), 0);
        check.same("width() at the end", talk.base.width(), 2);
        talk.base.reset();
        check.same("width() behind reset()", talk.base.width(), 2);
    }
}
