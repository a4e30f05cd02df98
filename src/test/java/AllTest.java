/** Promise 9: all. */
final class AllTest {
    public static void main(String[] args) {
        Check check = new Check();
        Talk talk = new Talk(check);
        check.same("all() at first", talk.base.all(), 0);
        for (int t = 0; t < 10; t++) {
            talk.done("CREATE t" + t + " 1");
            check.same("all() behind CREATE", talk.base.all(), 2 * t);
            talk.done("INSERT t" + t + " 1", "INSERT t" + t + " 2");
            check.same("all() behind INSERT", talk.base.all(), 2 * t + 2);
        }
        talk.stepped("INSERT t3 2", -1);
        check.same("all() behind a key that is there", talk.base.all(), 20);
        talk.done("DELETE t9 WHERE c0 IS 1");
        check.same("all() behind DELETE of one row", talk.base.all(), 19);
        talk.done("DELETE t0");
        check.same("all() behind DELETE of a table's rows", talk.base.all(), 17);
        talk.selected("SELECT COUNT FROM t1 t2", Talk.row(4));
        check.same("all() behind SELECT", talk.base.all(), 17);
        talk.base.clear();
        check.same("all() behind clear()", talk.base.all(), 0);
        check.end();
    }
}
