/** Promise 11: clear. */
final class ClearTest {
    private final Check check = new Check();

    public static void main(String[] args) {
        new ClearTest().sentences();
    }

    private void sentences() {
        check.sentence("All is as at first.", this::ofANewObject, this::ofTables, this::ofTokens, this::ofSixtyTokens,
                this::ofAStatementOnItsRow, this::ofAStatementAtItsEnd, this::ofAllAgainAndAgain, this::ofFullTables,
                this::ofColumns);
        check.end();
    }

    private void isAsAtFirst(Talk talk) {
        for (int t = 0; t <= 9; t++) {
            int table = t;
            talk.rows(t, CursorBase.NONE);
            check.throwsArgument("nearest(" + t + ", 1, true)", () -> talk.base.nearest(table, 1, true));
        }
        talk.all(0);
        check.throwsState("step()", talk.base::step);
        check.throwsState("reset()", talk.base::reset);
        check.throwsState("width()", talk.base::width);
        talk.hasNoRow("behind clear()");
        check.same("feed", talk.base.feed(3, 1), 1);
        check.same("prepare()", talk.base.prepare(), -1);
        talk.prepared("DELETE t0", -2);
        check.throwsState("step() behind wrong statements", talk.base::step);
    }

    private void clears(Talk talk) {
        talk.base.clear();
        isAsAtFirst(talk);
    }

    private void ofANewObject() {
        clears(new Talk(check));
    }

    private void ofTables() {
        clears(new Talk(check, "CREATE t0 3", "CREATE t9 1", "INSERT t0 1 2 3", "INSERT t9 1"));
    }

    private void ofTokens() {
        Talk talk = new Talk(check);
        talk.feed("CREATE t0");
        talk.base.clear();
        check.same("prepare() of no tokens", talk.base.prepare(), -1);
        talk.feed("CREATE t0");
        clears(talk);
    }

    private void ofSixtyTokens() {
        Talk talk = new Talk(check);
        talk.feed("1 ".repeat(60));
        talk.base.clear();
        for (int i = 1; i <= 60; i++) {
            check.same("feed " + i, talk.base.feed(3, i), i);
        }
        check.throwsState("feed 61", () -> talk.base.feed(3, 61));
    }

    private void ofAStatementOnItsRow() {
        Talk talk = new Talk(check, "CREATE t0 1", "INSERT t0 1", "INSERT t0 2");
        talk.prepared("SELECT ALL FROM t0", 0);
        talk.step("to the first row", 1);
        clears(talk);
    }

    private void ofAStatementAtItsEnd() {
        Talk talk = new Talk(check, "CREATE t0 1");
        clears(talk);
        talk.done("CREATE t0 1");
        talk.rows(0, 0);
    }

    private void ofAllAgainAndAgain() {
        Talk talk = new Talk(check);
        for (int round = 0; round < 3; round++) {
            talk.done("CREATE t0 3", "CREATE t9 1", "INSERT t0 1 2 3", "INSERT t0 4 5 6", "INSERT t9 1");
            talk.prepared("SELECT ALL FROM t0 FALLING", 0);
            talk.step("to the first row", 1);
            talk.isOn("the first row", 4, 5, 6);
            talk.feed("SELECT ALL FROM");
            clears(talk);
        }
    }

    private void ofFullTables() {
        Talk talk = Talk.full(check, 4);
        clears(talk);
        talk.done("CREATE t3 1", "INSERT t3 399");
        talk.all(1);
        talk.selected("SELECT ALL FROM t3", Talk.row(399));
    }

    private void ofColumns() {
        Talk talk = new Talk(check, "CREATE t0 3", "INSERT t0 8 2 3");
        talk.base.clear();
        talk.done("CREATE t0 1");
        talk.selected("SELECT ALL FROM t0");
        talk.done("INSERT t0 8");
        talk.selected("SELECT ALL FROM t0", Talk.row(8));
        talk.prepared("SELECT c1 FROM t0", -3);
    }
}
