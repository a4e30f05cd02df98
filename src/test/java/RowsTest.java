/** Promise 8: rows. */
final class RowsTest {
    private final Check check = new Check();

    public static void main(String[] args) {
        new RowsTest().sentences();
    }

    private void sentences() {
        check.sentence("How many rows a table has", this::noneInANewTable, this::ofEachTable, this::ofTheFullTable);
        check.sentence("NONE when it is not there", this::notThere);
        check.sentence("IllegalArgumentException, when it is not 0 .. 9", this::noTable);
        check.end();
    }

    private void noneInANewTable() {
        for (int t = 0; t <= 9; t++) {
            new Talk(check, "CREATE t" + t + " 1").rows(t, 0);
        }
    }

    private void ofEachTable() {
        Talk talk = new Talk(check, "CREATE t0 1", "CREATE t9 2", "CREATE t5 1", "INSERT t9 1 1", "INSERT t0 1",
                "INSERT t5 1", "INSERT t9 2 1");
        talk.stepped("INSERT t9 2 1", -1);
        counts(talk, 1, 1, 2);
        talk.done("DELETE t0");
        counts(talk, 0, 1, 2);
        talk.done("DELETE t9 WHERE c0 IS 2", "INSERT t5 2");
        counts(talk, 0, 2, 1);
    }

    private void counts(Talk talk, int zero, int five, int nine) {
        talk.rows(0, zero);
        talk.rows(5, five);
        talk.rows(9, nine);
        talk.rows(4, CursorBase.NONE);
    }

    private void ofTheFullTable() {
        Talk.full(check, 1).rows(0, 400);
    }

    private void notThere() {
        Talk talk = new Talk(check);
        for (int t = 0; t <= 9; t++) {
            talk.rows(t, CursorBase.NONE);
        }
        talk.prepared("CREATE t0 1", 0);
        talk.rows(0, CursorBase.NONE);
        talk.step("of CREATE", 0);
        talk.rows(0, 0);
        talk.rows(1, CursorBase.NONE);
        talk.base.clear();
        talk.rows(0, CursorBase.NONE);
    }

    private void noTable() {
        Talk talk = new Talk(check, "CREATE t0 1", "CREATE t9 1");
        for (int t : new int[] {-1, 10, 11, -2, Integer.MIN_VALUE, Integer.MAX_VALUE}) {
            check.throwsArgument("rows(" + t + ")", () -> talk.base.rows(t));
        }
    }
}
