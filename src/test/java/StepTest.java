/** Promise 4: step. */
final class StepTest {
    private final Check check = new Check();

    public static void main(String[] args) {
        new StepTest().sentences();
    }

    private void sentences() {
        check.sentence("1 when there is a row (the next one)", this::rowByRow, this::goesOnBetweenOtherCalls);
        check.sentence("0 at its end, also again and again", this::endOfRows, this::endOfNoRows, this::endOfTotals);
        check.sentence("CREATE, INSERT and DELETE are done by the first step, which ends them", this::createOnce,
                this::insertOnce, this::deleteOnce);
        check.sentence("behind reset() they are done once more", this::insertOnceMore, this::deleteOnceMore);
        check.sentence("INSERT with a key that is there is -1", this::keyIsThere);
        check.sentence("with 400 rows in all -2", this::rowsAreFull, this::theLastRowThatFits);
        check.sentence("(looked at after the key)", this::keyIsThereWhenRowsAreFull);
        check.sentence("CREATE of a table that has come since -3", this::tableHasCome);
        check.sentence("nothing changes", this::keyThatIsThereChangesNothing, this::fullRowsChangeNothing,
                this::tableThatHasComeChangesNothing);
        check.sentence("and that is their end, too", this::endBehindKeyIsThere, this::endBehindRowsAreFull,
                this::endBehindTableHasCome);
        check.sentence("IllegalStateException, when there is no statement", this::noStatement);
        check.end();
    }

    private Talk threeRows() {
        return new Talk(check, "CREATE t0 2", "INSERT t0 2 20", "INSERT t0 3 30", "INSERT t0 1 10");
    }

    private void rowByRow() {
        Talk talk = threeRows();
        talk.selected("SELECT ALL FROM t0", Talk.row(1, 10), Talk.row(2, 20), Talk.row(3, 30));
        talk.selected("SELECT c0 FROM t0 FALLING", Talk.row(3), Talk.row(2), Talk.row(1));
        talk.selected("SELECT c0 c11 FROM t0 t0 WHERE c0 BELOW c10", Talk.row(1, 20), Talk.row(1, 30), Talk.row(2, 30));
        talk.selected("SELECT COUNT FROM t0", Talk.row(3));
    }

    private void goesOnBetweenOtherCalls() {
        Talk talk = threeRows();
        talk.prepared("SELECT c0 FROM t0", 0);
        talk.step("to the first row", 1);
        talk.feed("SELECT");
        talk.rows(0, 3);
        talk.all(3);
        check.same("nearest(0, 9, false)", talk.base.nearest(0, 9, false), 3);
        check.throwsState("nearest(0, 9, true)", () -> talk.base.nearest(0, 9, true));
        check.throwsArgument("feed(9, 9)", () -> talk.base.feed(9, 9));
        check.throwsIndex("column(1)", () -> talk.base.column(1));
        talk.gives("the statement", Talk.row(2), Talk.row(3));
    }

    private void endsAgainAndAgain(Talk talk, String statement, int rows) {
        talk.prepared(statement, 0);
        for (int i = 0; i < rows; i++) {
            talk.step("to row " + i + " of " + statement, 1);
        }
        for (int i = 0; i < 5; i++) {
            talk.step("at the end of " + statement, 0);
        }
        talk.hasNoRow("at the end of " + statement);
    }

    private void endOfRows() {
        Talk talk = threeRows();
        endsAgainAndAgain(talk, "SELECT ALL FROM t0", 3);
        endsAgainAndAgain(talk, "SELECT ALL FROM t0 FALLING", 3);
        endsAgainAndAgain(talk, "SELECT ALL FROM t0 WHERE c0 IS 3", 1);
        endsAgainAndAgain(talk, "SELECT ALL FROM t0 t0", 9);
    }

    private void endOfNoRows() {
        Talk talk = threeRows();
        talk.done("CREATE t1 1");
        endsAgainAndAgain(talk, "SELECT ALL FROM t1", 0);
        endsAgainAndAgain(talk, "SELECT ALL FROM t1 t0 FALLING", 0);
        endsAgainAndAgain(talk, "SELECT ALL FROM t0 t1", 0);
        endsAgainAndAgain(talk, "SELECT ALL FROM t0 WHERE c0 IS 4", 0);
    }

    private void endOfTotals() {
        Talk talk = threeRows();
        endsAgainAndAgain(talk, "SELECT COUNT FROM t0", 1);
        endsAgainAndAgain(talk, "SELECT SUM c1 FROM t0", 1);
        endsAgainAndAgain(talk, "SELECT COUNT FROM t0 WHERE 1 IS 2", 1);
        endsAgainAndAgain(talk, "SELECT SUM c1 FROM t0 WHERE 1 IS 2", 1);
    }

    private void createOnce() {
        Talk talk = new Talk(check);
        talk.prepared("CREATE t9 6", 0);
        talk.rows(9, CursorBase.NONE);
        for (int i = 0; i < 4; i++) {
            talk.step("of CREATE", 0);
            talk.rows(9, 0);
        }
    }

    private void insertOnce() {
        Talk talk = threeRows();
        talk.prepared("INSERT t0 4 40", 0);
        talk.rows(0, 3);
        for (int i = 0; i < 4; i++) {
            talk.step("of INSERT", 0);
            talk.rows(0, 4);
        }
    }

    private void deleteOnce() {
        Talk talk = threeRows();
        talk.prepared("DELETE t0 WHERE c0 ABOVE 1", 0);
        talk.rows(0, 3);
        for (int i = 0; i < 4; i++) {
            talk.step("of DELETE", 0);
            talk.rows(0, 1);
        }
        talk.selected("SELECT ALL FROM t0", Talk.row(1, 10));
    }

    private void insertOnceMore() {
        Talk talk = threeRows();
        talk.done("INSERT t0 4 40");
        talk.reset("of INSERT", 0);
        talk.step("of INSERT once more", -1);
        talk.rows(0, 4);
    }

    private void deleteOnceMore() {
        Talk talk = threeRows();
        talk.done("DELETE t0 WHERE c0 IS 2");
        talk.reset("of DELETE", 0);
        talk.step("of DELETE once more", 0);
        talk.selected("SELECT c0 FROM t0", Talk.row(1), Talk.row(3));
    }

    private void keyIsThere() {
        Talk talk = threeRows();
        for (int key = 1; key <= 3; key++) {
            talk.stepped("INSERT t0 " + key + " 7", -1);
        }
        talk.stepped("INSERT t0 4 10", 0);
        talk.done("DELETE t0 WHERE c0 IS 2", "INSERT t0 2 7");
    }

    private void rowsAreFull() {
        Talk talk = Talk.full(check, 2);
        for (int key : new int[] {-1, 400, Integer.MIN_VALUE, Integer.MAX_VALUE}) {
            talk.stepped("INSERT t0 " + key + " 0", -2);
            talk.stepped("INSERT t1 " + key + " 0", -2);
        }
    }

    private void theLastRowThatFits() {
        Talk talk = Talk.full(check, 2);
        talk.done("DELETE t1 WHERE c0 IS 1");
        talk.all(399);
        talk.stepped("INSERT t0 1 1", 0);
        talk.reset("of INSERT", 0);
        talk.step("of INSERT with 400 rows, whose key is there now", -1);
        talk.stepped("INSERT t1 1 1", -2);
    }

    private void keyIsThereWhenRowsAreFull() {
        Talk talk = Talk.full(check, 2);
        for (int key = 0; key < 400; key += 57) {
            talk.stepped("INSERT t" + key % 2 + " " + key + " 0", -1);
            talk.stepped("INSERT t" + (key + 1) % 2 + " " + key + " 0", -2);
        }
    }

    private Talk createdAndReset() {
        Talk talk = new Talk(check, "CREATE t7 1", "INSERT t7 1", "CREATE t8 2");
        talk.reset("of CREATE", 0);
        return talk;
    }

    private void tableHasCome() {
        Talk talk = createdAndReset();
        talk.step("of CREATE once more", -3);
        talk.reset("of CREATE", 0);
        talk.step("of CREATE yet once more", -3);
    }

    private void keyThatIsThereChangesNothing() {
        Talk talk = threeRows();
        talk.stepped("INSERT t0 2 99", -1);
        talk.all(3);
        talk.selected("SELECT ALL FROM t0", Talk.row(1, 10), Talk.row(2, 20), Talk.row(3, 30));
    }

    private void fullRowsChangeNothing() {
        Talk talk = Talk.full(check, 2);
        talk.stepped("INSERT t0 -1 7", -2);
        talk.stepped("INSERT t1 400 7", -2);
        talk.all(400);
        talk.rows(0, 200);
        talk.rows(1, 200);
        talk.selected("SELECT SUM c0 FROM t0", Talk.row(199 * 200));
        talk.selected("SELECT SUM c1 FROM t1", Talk.row(2 * 200 * 200));
        check.same("nearest(0, -5, true)", talk.base.nearest(0, -5, true), 0);
        check.same("nearest(1, 500, false)", talk.base.nearest(1, 500, false), 399);
    }

    private void tableThatHasComeChangesNothing() {
        Talk talk = createdAndReset();
        talk.step("of CREATE once more", -3);
        talk.rows(8, 0);
        talk.selected("SELECT ALL FROM t7", Talk.row(1));
        talk.done("INSERT t8 3 4");
        talk.selected("SELECT ALL FROM t8", Talk.row(3, 4));
    }

    /** The step that did not do it was the first one: now the statement is at its end. */
    private void isAtItsEnd(Talk talk) {
        talk.hasNoRow("behind what was not done");
        for (int i = 0; i < 3; i++) {
            talk.step("behind what was not done", 0);
        }
        talk.reset("behind what was not done", 0);
    }

    private void endBehindKeyIsThere() {
        Talk talk = threeRows();
        talk.stepped("INSERT t0 1 9", -1);
        isAtItsEnd(talk);
        talk.step("of INSERT once more", -1);
        isAtItsEnd(talk);
    }

    private void endBehindRowsAreFull() {
        Talk talk = Talk.full(check, 5);
        talk.stepped("INSERT t0 -1 9", -2);
        isAtItsEnd(talk);
        talk.step("of INSERT once more", -2);
        isAtItsEnd(talk);
    }

    private void endBehindTableHasCome() {
        Talk talk = createdAndReset();
        talk.step("of CREATE once more", -3);
        isAtItsEnd(talk);
        talk.step("of CREATE yet once more", -3);
        isAtItsEnd(talk);
    }

    private void noStatement() {
        check.throwsState("step() of a new object", new CursorBase()::step);
        Talk talk = new Talk(check);
        talk.feed("CREATE t0 1");
        check.throwsState("step() before prepare()", talk.base::step);
        check.same("prepare()", talk.base.prepare(), 0);
        talk.step("behind prepare()", 0);
        talk.base.clear();
        check.throwsState("step() behind clear()", talk.base::step);
    }
}
