/** Promise 6: width. */
final class WidthTest {
    private final Check check = new Check();

    public static void main(String[] args) {
        new WidthTest().sentences();
    }

    private void sentences() {
        check.sentence("How many columns the rows of the statement have", this::ofAll, this::ofColumns, this::ofTotals,
                this::whereverItIs);
        check.sentence("0 when it is no SELECT", this::ofOthers);
        check.sentence("IllegalStateException, when there is none", this::noStatement);
        check.end();
    }

    private Talk threeTables() {
        return new Talk(check, "CREATE t0 6", "CREATE t1 1", "CREATE t2 3");
    }

    private void has(Talk talk, String statement, int due) {
        talk.prepared(statement, 0);
        check.same("width() of '" + statement + "'", talk.base.width(), due);
    }

    private void ofAll() {
        Talk talk = threeTables();
        has(talk, "SELECT ALL FROM t1", 1);
        has(talk, "SELECT ALL FROM t0", 6);
        has(talk, "SELECT ALL FROM t1 t1", 2);
        has(talk, "SELECT ALL FROM t2 t1", 4);
        has(talk, "SELECT ALL FROM t1 t0 WHERE c0 IS c11 FALLING", 7);
        has(talk, "SELECT ALL FROM t0 t0", 12);
    }

    private void ofColumns() {
        Talk talk = threeTables();
        for (int n = 1; n <= 8; n++) {
            has(talk, "SELECT" + " c5".repeat(n) + " FROM t0", n);
            has(talk, "SELECT" + " c10".repeat(n) + " FROM t0 t1", n);
        }
    }

    private void ofTotals() {
        Talk talk = threeTables();
        has(talk, "SELECT COUNT FROM t0", 1);
        has(talk, "SELECT COUNT FROM t0 t2", 1);
        has(talk, "SELECT SUM c5 FROM t0", 1);
        has(talk, "SELECT SUM c15 FROM t1 t0", 1);
    }

    private void whereverItIs() {
        Talk talk = threeTables();
        talk.done("INSERT t1 1");
        has(talk, "SELECT ALL FROM t1 t1", 2);
        talk.step("to the row", 1);
        check.same("width() on the row", talk.base.width(), 2);
        talk.step("to the end", 0);
        check.same("width() at the end", talk.base.width(), 2);
        talk.reset("at the end", 1);
        check.same("width() behind reset()", talk.base.width(), 2);
        talk.prepared("SELECT ALL FROM t9", -2);
        check.same("width() behind a wrong statement", talk.base.width(), 2);
    }

    private void ofOthers() {
        Talk talk = new Talk(check);
        for (String statement : new String[] {"CREATE t0 2", "INSERT t0 1 2", "DELETE t0 WHERE c0 IS c1", "DELETE t0"}) {
            has(talk, statement, 0);
            talk.step("of " + statement, 0);
            check.same("width() at the end of " + statement, talk.base.width(), 0);
        }
    }

    private void noStatement() {
        check.throwsState("width() of a new object", new CursorBase()::width);
        Talk talk = new Talk(check);
        talk.feed("CREATE t0 1");
        check.throwsState("width() before prepare()", talk.base::width);
        check.same("prepare()", talk.base.prepare(), 0);
        check.same("width() behind prepare()", talk.base.width(), 0);
        talk.base.clear();
        check.throwsState("width() behind clear()", talk.base::width);
    }
}
