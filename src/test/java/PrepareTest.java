/** Promise 3: prepare. */
final class PrepareTest {
    /** One of each kind of wrong statement, on the tables of threeRows(), and what it answers. */
    private static final String[] WRONG = {"", "SELECT", "SELECT ALL FROM t7", "SELECT c2 FROM t0", "CREATE t0 1",
        "INSERT t0 1"};
    private static final int[] FAULTS = {-1, -1, -2, -3, -4, -5};

    private final Check check = new Check();

    public static void main(String[] args) {
        new PrepareTest().sentences();
    }

    private void sentences() {
        check.sentence("The pending tokens become the statement at hand, at its beginning", this::becomesTheStatement,
                this::beginsInTheMiddleOfAnother, this::beginsBehindTheEndOfAnother, this::sameAgain, this::doesNothingYet);
        check.sentence("none are pending then", this::nonePendingBehindRightOne, this::nonePendingBehindWrongOne);
        check.sentence("0; or what is wrong", this::answers);
        check.sentence("then the statement at hand stays as it was", this::noneStaysNone, this::staysAtItsBeginning,
                this::staysOnItsRow, this::staysAtItsEnd, this::staysUndone, this::staysDone);
        check.end();
    }

    private Talk threeRows() {
        return new Talk(check, "CREATE t0 2", "INSERT t0 1 10", "INSERT t0 2 20", "INSERT t0 3 30");
    }

    private void prepareWrongOnes(Talk talk) {
        for (int i = 0; i < WRONG.length; i++) {
            talk.prepared(WRONG[i], FAULTS[i]);
        }
    }

    private void becomesTheStatement() {
        Talk talk = threeRows();
        talk.prepared("SELECT c1 FROM t0", 0);
        talk.hasNoRow("before a step");
        talk.reset("before a step", 0);
        talk.gives("SELECT c1 FROM t0", Talk.row(10), Talk.row(20), Talk.row(30));
    }

    private void beginsInTheMiddleOfAnother() {
        Talk talk = threeRows();
        talk.prepared("SELECT ALL FROM t0 t0", 0);
        for (int i = 0; i < 5; i++) {
            talk.step("in the middle", 1);
        }
        talk.prepared("SELECT c0 c10 FROM t0 t0 WHERE c0 IS c10", 0);
        talk.hasNoRow("before a step");
        talk.gives("the new statement", Talk.row(1, 1), Talk.row(2, 2), Talk.row(3, 3));
        talk.reset("at the end of the new statement", 3);
    }

    private void beginsBehindTheEndOfAnother() {
        Talk talk = threeRows();
        talk.selected("SELECT COUNT FROM t0", Talk.row(3));
        talk.selected("SELECT SUM c1 FROM t0", Talk.row(60));
        talk.stepped("INSERT t0 1 1", -1);
        talk.selected("SELECT c0 FROM t0 FALLING", Talk.row(3), Talk.row(2), Talk.row(1));
    }

    private void sameAgain() {
        Talk talk = threeRows();
        for (int i = 0; i < 3; i++) {
            talk.prepared("SELECT ALL FROM t0", 0);
            talk.hasNoRow("before a step");
            talk.step("to the first row", 1);
            talk.isOn("the first row", 1, 10);
        }
        talk.reset("behind the latest prepare()", 1);
    }

    private void doesNothingYet() {
        Talk talk = threeRows();
        talk.prepared("INSERT t0 4 40", 0);
        talk.prepared("CREATE t5 3", 0);
        talk.prepared("DELETE t0", 0);
        talk.prepared("SELECT ALL FROM t0", 0);
        talk.rows(0, 3);
        talk.rows(5, CursorBase.NONE);
    }

    private void nonePendingBehindRightOne() {
        Talk talk = threeRows();
        for (String right : new String[] {"CREATE t1 1", "INSERT t0 7 7", "DELETE t0 WHERE c0 IS 9", "SELECT ALL FROM t0"}) {
            talk.prepared(right, 0);
            check.same("prepare() at once again", talk.base.prepare(), -1);
            talk.prepared(right, 0);
            check.same("feed behind " + right, talk.base.feed(0, 0), 1);
            talk.base.prepare();
        }
    }

    private void nonePendingBehindWrongOne() {
        Talk talk = threeRows();
        for (int i = 0; i < WRONG.length; i++) {
            talk.prepared(WRONG[i], FAULTS[i]);
            check.same("feed behind '" + WRONG[i] + "'", talk.base.feed(0, 2), 1);
            talk.feed("t0");
            check.same("prepare() of what was fed behind '" + WRONG[i] + "'", talk.base.prepare(), 0);
        }
        talk.prepared("1 ".repeat(60), -1);
        check.same("feed behind 60 tokens", talk.base.feed(0, 2), 1);
    }

    private void answers() {
        prepareWrongOnes(threeRows());
        threeRows().prepared("SELECT ALL FROM t0", 0);
    }

    private void noneStaysNone() {
        Talk talk = new Talk(check);
        for (String wrong : new String[] {"", "SELECT", "SELECT ALL FROM t7", "CREATE t0 7"}) {
            talk.prepare(wrong);
            check.throwsState("step() behind '" + wrong + "'", talk.base::step);
            check.throwsState("reset() behind '" + wrong + "'", talk.base::reset);
            check.throwsState("width() behind '" + wrong + "'", talk.base::width);
            talk.hasNoRow("behind '" + wrong + "'");
        }
    }

    private void staysAtItsBeginning() {
        Talk talk = threeRows();
        talk.prepared("SELECT c1 FROM t0", 0);
        prepareWrongOnes(talk);
        talk.hasNoRow("at the beginning");
        check.same("width()", talk.base.width(), 1);
        talk.reset("at the beginning", 0);
        talk.gives("the statement before the wrong ones", Talk.row(10), Talk.row(20), Talk.row(30));
    }

    private void staysOnItsRow() {
        for (int i = 0; i < WRONG.length; i++) {
            Talk talk = threeRows();
            talk.prepared("SELECT c1 FROM t0", 0);
            talk.step("to the first row", 1);
            talk.prepared(WRONG[i], FAULTS[i]);
            talk.isOn("the row that was given before '" + WRONG[i] + "'", 10);
            talk.gives("the statement before '" + WRONG[i] + "'", Talk.row(20), Talk.row(30));
            talk.reset("behind all rows", 3);
        }
    }

    private void staysAtItsEnd() {
        Talk talk = threeRows();
        talk.selected("SELECT COUNT FROM t0", Talk.row(3));
        prepareWrongOnes(talk);
        talk.step("at the end", 0);
        talk.hasNoRow("at the end");
        talk.reset("at the end", 1);
    }

    private void staysUndone() {
        Talk talk = threeRows();
        talk.prepared("INSERT t0 4 40", 0);
        prepareWrongOnes(talk);
        talk.rows(0, 3);
        talk.step("of INSERT", 0);
        talk.rows(0, 4);
    }

    private void staysDone() {
        Talk talk = threeRows();
        talk.done("INSERT t0 4 40");
        prepareWrongOnes(talk);
        talk.step("at the end of INSERT", 0);
        talk.rows(0, 4);
        talk.reset("at the end of INSERT", 0);
        talk.step("of INSERT once more", -1);
    }
}
