/** Promise 5: reset. */
final class ResetTest {
    private final Check check = new Check();

    public static void main(String[] args) {
        new ResetTest().sentences();
    }

    private void sentences() {
        check.sentence("The statement is at its beginning again", this::fromItsBeginning, this::fromEachRow,
                this::fromItsEnd, this::fromTheMiddleOfTwoTables, this::ofTotals, this::ofWhatIsDoneOnce);
        check.sentence("how many rows it had given since", this::givenBehindEachStep, this::givenSinceTheLatestBeginning,
                this::givenByTotals, this::givenByOthers, this::givenByTwoTables);
        check.sentence("IllegalStateException, when there is none", this::noStatement);
        check.end();
    }

    private Talk threeRows() {
        return new Talk(check, "CREATE t0 1", "INSERT t0 1", "INSERT t0 2", "INSERT t0 3");
    }

    private void fromItsBeginning() {
        Talk talk = threeRows();
        talk.prepared("SELECT ALL FROM t0", 0);
        talk.reset("before a step", 0);
        talk.reset("again", 0);
        talk.gives("the statement", Talk.row(1), Talk.row(2), Talk.row(3));
    }

    private void fromEachRow() {
        Talk talk = threeRows();
        talk.prepared("SELECT ALL FROM t0 FALLING", 0);
        for (int steps = 1; steps <= 3; steps++) {
            for (int i = 0; i < steps; i++) {
                talk.step("to a row", 1);
            }
            talk.reset("on row " + steps, steps);
            talk.hasNoRow("behind reset()");
        }
        talk.gives("the statement behind reset()", Talk.row(3), Talk.row(2), Talk.row(1));
    }

    private void fromItsEnd() {
        Talk talk = threeRows();
        talk.selected("SELECT ALL FROM t0", Talk.row(1), Talk.row(2), Talk.row(3));
        talk.reset("at the end", 3);
        talk.hasNoRow("behind reset()");
        check.same("width() behind reset()", talk.base.width(), 1);
        talk.gives("the statement behind its end and reset()", Talk.row(1), Talk.row(2), Talk.row(3));
        talk.selected("SELECT ALL FROM t0 WHERE c0 IS 4");
        talk.reset("at the end of no rows", 0);
        talk.gives("no rows");
    }

    private void fromTheMiddleOfTwoTables() {
        Talk talk = threeRows();
        talk.prepared("SELECT c0 c10 FROM t0 t0 WHERE c0 BELOW c10", 0);
        talk.step("to the first row", 1);
        talk.step("to the second row", 1);
        talk.reset("in the middle", 2);
        talk.gives("two tables behind reset()", Talk.row(1, 2), Talk.row(1, 3), Talk.row(2, 3));
    }

    private void ofTotals() {
        Talk talk = threeRows();
        for (String statement : new String[] {"SELECT COUNT FROM t0", "SELECT SUM c0 FROM t0 WHERE c0 ABOVE 2"}) {
            talk.prepared(statement, 0);
            talk.gives(statement, Talk.row(3));
            talk.reset("at the end of " + statement, 1);
            talk.hasNoRow("behind reset()");
            talk.gives(statement + " behind reset()", Talk.row(3));
        }
    }

    private void ofWhatIsDoneOnce() {
        Talk talk = threeRows();
        talk.prepared("INSERT t0 4", 0);
        talk.reset("of INSERT that was not stepped", 0);
        talk.rows(0, 3);
        talk.step("of INSERT", 0);
        talk.reset("of INSERT", 0);
        talk.rows(0, 4);
        talk.step("of INSERT once more", -1);
    }

    private void givenBehindEachStep() {
        Talk talk = threeRows();
        talk.prepared("SELECT ALL FROM t0", 0);
        for (int steps = 0; steps < 7; steps++) {
            for (int i = 0; i < steps; i++) {
                talk.base.step();
            }
            talk.reset("behind " + steps + " steps", Math.min(steps, 3));
        }
    }

    private void givenSinceTheLatestBeginning() {
        Talk talk = threeRows();
        talk.prepared("SELECT ALL FROM t0", 0);
        talk.step("to the first row", 1);
        talk.step("to the second row", 1);
        talk.reset("behind two rows", 2);
        talk.reset("behind reset()", 0);
        talk.step("to the first row", 1);
        talk.reset("behind one row", 1);
        talk.step("to the first row", 1);
        talk.prepared("SELECT ALL FROM t0", 0);
        talk.reset("behind prepare()", 0);
    }

    private void givenByTotals() {
        Talk talk = threeRows();
        for (String statement : new String[] {"SELECT COUNT FROM t0", "SELECT SUM c0 FROM t0 WHERE 1 IS 2"}) {
            talk.prepared(statement, 0);
            talk.reset("before a step of " + statement, 0);
            talk.step("of " + statement, 1);
            talk.reset("on the row of " + statement, 1);
            talk.step("of " + statement, 1);
            talk.step("of " + statement, 0);
            talk.step("of " + statement, 0);
            talk.reset("at the end of " + statement, 1);
        }
    }

    private void givenByOthers() {
        Talk talk = threeRows();
        talk.stepped("INSERT t0 4", 0);
        talk.reset("of INSERT", 0);
        talk.stepped("INSERT t0 4", -1);
        talk.reset("behind -1", 0);
        talk.stepped("DELETE t0", 0);
        talk.reset("of DELETE", 0);
        talk.stepped("CREATE t1 1", 0);
        talk.reset("of CREATE", 0);
        talk.step("of CREATE once more", -3);
        talk.reset("behind -3", 0);
    }

    private void givenByTwoTables() {
        Talk talk = threeRows();
        talk.prepared("SELECT ALL FROM t0 t0", 0);
        for (int i = 1; i <= 9; i++) {
            talk.step("to row " + i, 1);
        }
        talk.step("to the end", 0);
        talk.reset("at the end", 9);
    }

    private void noStatement() {
        check.throwsState("reset() of a new object", new CursorBase()::reset);
        Talk talk = new Talk(check);
        talk.feed("CREATE t0 1");
        check.throwsState("reset() before prepare()", talk.base::reset);
        check.same("prepare()", talk.base.prepare(), 0);
        talk.reset("behind prepare()", 0);
        talk.base.clear();
        check.throwsState("reset() behind clear()", talk.base::reset);
    }
}
