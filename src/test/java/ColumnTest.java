/** Promise 7: column. */
final class ColumnTest {
    private final Check check = new Check();

    public static void main(String[] args) {
        new ColumnTest().sentences();
    }

    private void sentences() {
        check.sentence("A column of the row that the latest step gave", this::ofTwoTables, this::ofTotals,
                this::asOftenAsAsked, this::whileTokensAreFed);
        check.sentence("IllegalStateException, when that did not give one", this::atTheEnd, this::behindOtherStatements,
                this::behindWhatWasNotDone);
        check.sentence("or there was none since prepare() or reset()", this::behindPrepare, this::behindReset,
                this::withoutAStatement);
        check.sentence("IndexOutOfBoundsException, when it has no such column", this::indexes, this::refusalLeavesTheRow);
        check.end();
    }

    private Talk twoTables() {
        return new Talk(check, "CREATE t0 6", "INSERT t0 1 2 3 4 5 6", "CREATE t1 2", "INSERT t1 7 -8", "INSERT t1 9 10");
    }

    private void ofTwoTables() {
        Talk talk = twoTables();
        talk.selected("SELECT ALL FROM t0 t1", Talk.row(1, 2, 3, 4, 5, 6, 7, -8), Talk.row(1, 2, 3, 4, 5, 6, 9, 10));
        talk.selected("SELECT ALL FROM t1 t0", Talk.row(7, -8, 1, 2, 3, 4, 5, 6), Talk.row(9, 10, 1, 2, 3, 4, 5, 6));
        talk.selected("SELECT c15 c5 c10 c11 FROM t0 t0", Talk.row(6, 6, 1, 2));
        talk.selected("SELECT c11 c1 c10 c0 FROM t1 t1 WHERE c0 BELOW c10", Talk.row(10, -8, 9, 7));
    }

    private void ofTotals() {
        Talk talk = twoTables();
        talk.selected("SELECT SUM c1 FROM t1", Talk.row(2));
        talk.selected("SELECT COUNT FROM t1 t1", Talk.row(4));
    }

    private void asOftenAsAsked() {
        Talk talk = twoTables();
        talk.prepared("SELECT c1 c0 FROM t1", 0);
        talk.step("to the first row", 1);
        for (int i = 0; i < 3; i++) {
            talk.isOn("the first row", -8, 7);
        }
        talk.step("to the second row", 1);
        talk.isOn("the second row", 10, 9);
    }

    private void whileTokensAreFed() {
        Talk talk = twoTables();
        talk.prepared("SELECT ALL FROM t1", 0);
        talk.step("to the first row", 1);
        talk.feed("SELECT COUNT FROM t0");
        talk.isOn("the first row", 7, -8);
        check.same("prepare()", talk.base.prepare(), 0);
        talk.hasNoRow("behind prepare()");
    }

    private void atTheEnd() {
        Talk talk = twoTables();
        for (String statement : new String[] {"SELECT ALL FROM t0", "SELECT COUNT FROM t0", "SELECT SUM c0 FROM t0"}) {
            talk.prepared(statement, 0);
            talk.step("to the row", 1);
            talk.step("to the end", 0);
            talk.hasNoRow("at the end of " + statement);
            check.throwsState("column(-1) at the end", () -> talk.base.column(-1));
            check.throwsState("column(99) at the end", () -> talk.base.column(99));
            talk.step("again", 0);
            talk.hasNoRow("at the end of " + statement);
        }
        talk.selected("SELECT ALL FROM t0 WHERE 1 IS 2");
        talk.hasNoRow("of no rows");
    }

    private void behindOtherStatements() {
        Talk talk = twoTables();
        for (String statement : new String[] {"CREATE t2 1", "INSERT t2 5", "DELETE t2"}) {
            talk.prepared("SELECT ALL FROM t0", 0);
            talk.step("to the row", 1);
            talk.done(statement);
            talk.hasNoRow("behind " + statement);
        }
    }

    private void behindWhatWasNotDone() {
        Talk talk = twoTables();
        talk.stepped("INSERT t1 7 0", -1);
        talk.hasNoRow("behind -1");
        talk.done("CREATE t2 1");
        talk.reset("of CREATE", 0);
        talk.step("of CREATE once more", -3);
        talk.hasNoRow("behind -3");
        Talk full = Talk.full(check, 1);
        full.stepped("INSERT t0 -1 0", -2);
        full.hasNoRow("behind -2");
    }

    private void behindPrepare() {
        Talk talk = twoTables();
        for (String statement : new String[] {"SELECT ALL FROM t0", "SELECT COUNT FROM t0", "INSERT t1 1 1"}) {
            talk.prepared("SELECT c0 FROM t1", 0);
            talk.step("to the first row", 1);
            talk.prepared(statement, 0);
            talk.hasNoRow("before the first step of " + statement);
            check.throwsState("column(-1) before the first step", () -> talk.base.column(-1));
            check.throwsState("column(99) before the first step", () -> talk.base.column(99));
        }
    }

    private void behindReset() {
        Talk talk = twoTables();
        for (String statement : new String[] {"SELECT ALL FROM t0", "SELECT COUNT FROM t0", "SELECT SUM c0 FROM t0"}) {
            talk.prepared(statement, 0);
            talk.step("to the row", 1);
            talk.reset("on the row", 1);
            talk.hasNoRow("behind reset()");
            check.throwsState("column(99) behind reset()", () -> talk.base.column(99));
            talk.step("to the row", 1);
            check.same("column(0) on the row again", talk.base.column(0), 1);
        }
    }

    private void withoutAStatement() {
        CursorBase base = new CursorBase();
        for (int i : new int[] {-1, 0, 1, Integer.MIN_VALUE, Integer.MAX_VALUE}) {
            check.throwsState("column(" + i + ") without a statement", () -> base.column(i));
        }
        Talk talk = twoTables();
        talk.prepared("SELECT ALL FROM t0", 0);
        talk.step("to the row", 1);
        talk.base.clear();
        talk.hasNoRow("behind clear()");
    }

    private void has(String statement, int width) {
        Talk talk = twoTables();
        talk.prepared(statement, 0);
        talk.step("of " + statement, 1);
        for (int i : new int[] {-1, width, width + 1, 12, 13, Integer.MIN_VALUE, Integer.MAX_VALUE}) {
            check.throwsIndex("column(" + i + ") of " + statement, () -> talk.base.column(i));
        }
        check.same("column(0) of " + statement, talk.base.column(0), 1);
    }

    private void indexes() {
        has("SELECT c0 FROM t0", 1);
        has("SELECT c0 c1 FROM t0", 2);
        has("SELECT c0 c1 c0 c1 c0 c1 c0 c1 FROM t0", 8);
        has("SELECT ALL FROM t0", 6);
        has("SELECT ALL FROM t0 t1", 8);
        has("SELECT ALL FROM t0 t0", 12);
        has("SELECT COUNT FROM t0", 1);
        has("SELECT SUM c0 FROM t0", 1);
    }

    private void refusalLeavesTheRow() {
        Talk talk = twoTables();
        talk.prepared("SELECT ALL FROM t1", 0);
        talk.step("to the first row", 1);
        check.throwsIndex("column(2)", () -> talk.base.column(2));
        talk.isOn("the first row", 7, -8);
        talk.gives("the statement", Talk.row(9, 10));
    }
}
