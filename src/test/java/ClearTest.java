/** Promise 11: clear. */
final class ClearTest {
    public static void main(String[] args) {
        Check check = new Check();
        Talk talk = new Talk(check);
        talk.base.clear();
        isAsAtFirst(check, talk);
        for (int round = 0; round < 3; round++) {
            talk.done("CREATE t0 3", "CREATE t9 1", "INSERT t0 1 2 3", "INSERT t0 4 5 6", "INSERT t9 1");
            talk.prepared("SELECT ALL FROM t0 FALLING", 0);
            check.same("step()", talk.base.step(), 1);
            talk.isOn("the first row", 4, 5, 6);
            talk.feed("SELECT ALL FROM");
            talk.base.clear();
            isAsAtFirst(check, talk);
        }
        talk.done("CREATE t0 1", "INSERT t0 8");
        talk.selected("SELECT ALL FROM t0", Talk.row(8));
        talk.prepared("SELECT c1 FROM t0", -3);
        check.end();
    }

    private static void isAsAtFirst(Check check, Talk talk) {
        for (int t = 0; t <= 9; t++) {
            check.same("rows(" + t + ")", talk.base.rows(t), CursorBase.NONE);
        }
        check.same("all()", talk.base.all(), 0);
        check.throwsState("step()", talk.base::step);
        check.throwsState("reset()", talk.base::reset);
        check.throwsState("width()", talk.base::width);
        check.throwsState("column(0)", () -> talk.base.column(0));
        check.throwsArgument("nearest(0, 1, true)", () -> talk.base.nearest(0, 1, true));
        check.same("feed", talk.base.feed(3, 1), 1);
        check.same("prepare()", talk.base.prepare(), -1);
        talk.prepared("DELETE t0", -2);
        check.throwsState("step() behind wrong statements", talk.base::step);
    }
}
