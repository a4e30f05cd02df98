/** Promise 9: all. */
final class AllTest {
    private final Check check = new Check();

    public static void main(String[] args) {
        new AllTest().sentences();
    }

    private void sentences() {
        check.sentence("How many rows all tables have", this::withoutTables, this::ofEmptyTables, this::ofTenTables,
                this::behindStatementsThatChangeNothing, this::behindDelete, this::behindClear, this::atTheMost);
        check.end();
    }

    private void withoutTables() {
        new Talk(check).all(0);
    }

    private void ofEmptyTables() {
        new Talk(check, "CREATE t0 6", "CREATE t9 6").all(0);
    }

    private Talk tenTables() {
        Talk talk = new Talk(check);
        for (int t = 0; t < 10; t++) {
            talk.done("CREATE t" + t + " 1");
            talk.all(2 * t);
            talk.done("INSERT t" + t + " 1", "INSERT t" + t + " 2");
            talk.all(2 * t + 2);
        }
        return talk;
    }

    private void ofTenTables() {
        tenTables().all(20);
    }

    private void behindStatementsThatChangeNothing() {
        Talk talk = tenTables();
        talk.stepped("INSERT t3 2", -1);
        talk.all(20);
        talk.selected("SELECT COUNT FROM t1 t2", Talk.row(4));
        talk.all(20);
        talk.prepared("DELETE t3", 0);
        talk.all(20);
    }

    private void behindDelete() {
        Talk talk = tenTables();
        talk.done("DELETE t9 WHERE c0 IS 1");
        talk.all(19);
        talk.done("DELETE t0");
        talk.all(17);
        talk.done("DELETE t0");
        talk.all(17);
    }

    private void behindClear() {
        Talk talk = tenTables();
        talk.base.clear();
        talk.all(0);
    }

    private void atTheMost() {
        Talk talk = Talk.full(check, 8);
        talk.all(400);
        talk.stepped("INSERT t0 -1 0", -2);
        talk.all(400);
    }
}
