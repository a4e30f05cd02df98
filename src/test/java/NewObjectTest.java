/** Promise 1: a new object. */
final class NewObjectTest {
    private final Check check = new Check();

    public static void main(String[] args) {
        new NewObjectTest().sentences();
    }

    private void sentences() {
        check.sentence("No tables", this::noTables);
        check.sentence("no tokens", this::noTokens);
        check.sentence("no statement", this::noStatement);
        check.sentence("CursorBase()", this::objectsAreApart);
        check.end();
    }

    private void noTables() {
        Talk talk = new Talk(check);
        for (int t = 0; t <= 9; t++) {
            int table = t;
            talk.rows(t, CursorBase.NONE);
            check.throwsArgument("nearest(" + t + ", 0, true)", () -> talk.base.nearest(table, 0, true));
            talk.prepared("SELECT ALL FROM t" + t, -2);
        }
        talk.all(0);
    }

    private void noTokens() {
        check.same("the first feed", new CursorBase().feed(3, 0), 1);
        check.same("prepare() without tokens", new CursorBase().prepare(), -1);
        Talk talk = new Talk(check);
        talk.prepared("CREATE t0 1", 0);
    }

    private void noStatement() {
        CursorBase base = new CursorBase();
        check.throwsState("step()", base::step);
        check.throwsState("reset()", base::reset);
        check.throwsState("width()", base::width);
        check.throwsState("column(0)", () -> base.column(0));
    }

    private void objectsAreApart() {
        Talk one = new Talk(check, "CREATE t0 1", "INSERT t0 5");
        one.feed("SELECT");
        CursorBase other = new CursorBase();
        check.same("rows(0) of another object", other.rows(0), CursorBase.NONE);
        check.same("all() of another object", other.all(), 0);
        check.same("feed of another object", other.feed(0, 3), 1);
        check.throwsState("step() of another object", other::step);
    }
}
