/** Promise 1: no tables, no tokens, no statement. */
final class NewObjectTest {
    public static void main(String[] args) {
        Check check = new Check();
        CursorBase base = new CursorBase();
        for (int t = 0; t <= 9; t++) {
            check.same("rows(" + t + ")", base.rows(t), CursorBase.NONE);
        }
        check.same("NONE", CursorBase.NONE, -1);
        check.same("all()", base.all(), 0);
        check.throwsState("step()", base::step);
        check.throwsState("reset()", base::reset);
        check.throwsState("width()", base::width);
        check.throwsState("column(0)", () -> base.column(0));
        check.same("prepare() without tokens", base.prepare(), -1);
        check.throwsState("step() behind that", base::step);
        check.same("the first feed", base.feed(3, 0), 1);
        objectsAreApart(check);
        check.end();
    }

    private static void objectsAreApart(Check check) {
        Talk one = new Talk(check);
        one.done("CREATE t0 1", "INSERT t0 5");
        one.feed("SELECT");
        CursorBase other = new CursorBase();
        check.same("rows(0) of another object", other.rows(0), CursorBase.NONE);
        check.same("all() of another object", other.all(), 0);
        check.same("feed of another object", other.feed(0, 3), 1);
        check.throwsState("step() of another object", other::step);
    }
}
