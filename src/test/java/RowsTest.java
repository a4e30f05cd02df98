/** Promise 8: rows. */
final class RowsTest {
    public static void main(String[] args) {
        Check check = new Check();
        Talk talk = new Talk(check);
        for (int t : new int[] {-1, 10, Integer.MIN_VALUE, Integer.MAX_VALUE}) {
            check.throwsArgument("rows(" + t + ")", () -> talk.base.rows(t));
        }
        check.same("rows(0) at first", talk.base.rows(0), CursorBase.NONE);
        talk.prepared("CREATE t0 1", 0);
        check.same("rows(0) before the step", talk.base.rows(0), CursorBase.NONE);
        check.same("step()", talk.base.step(), 0);
        check.same("rows(0) behind CREATE", talk.base.rows(0), 0);
        talk.done("CREATE t9 2", "CREATE t5 1", "INSERT t9 1 1", "INSERT t0 1", "INSERT t5 1", "INSERT t9 2 1");
        talk.stepped("INSERT t9 2 1", -1);
        counts(check, talk, 1, 1, 2);
        talk.done("DELETE t0");
        counts(check, talk, 0, 1, 2);
        talk.done("DELETE t9 WHERE c0 IS 2", "INSERT t5 2");
        counts(check, talk, 0, 2, 1);
        check.same("rows(4)", talk.base.rows(4), CursorBase.NONE);
        check.end();
    }

    private static void counts(Check check, Talk talk, int zero, int five, int nine) {
        check.same("rows(0)", talk.base.rows(0), zero);
        check.same("rows(5)", talk.base.rows(5), five);
        check.same("rows(9)", talk.base.rows(9), nine);
    }
}
