/** Promise 10: nearest. */
final class NearestTest {
    public static void main(String[] args) {
        Check check = new Check();
        Talk talk = new Talk(check);
        for (int t : new int[] {-1, 0, 9, 10, Integer.MIN_VALUE, Integer.MAX_VALUE}) {
            check.throwsArgument("nearest(" + t + ", 0, true)", () -> talk.base.nearest(t, 0, true));
            check.throwsArgument("nearest(" + t + ", 0, false)", () -> talk.base.nearest(t, 0, false));
        }
        talk.done("CREATE t1 2", "CREATE t2 1", "CREATE t0 1", "INSERT t0 6", "INSERT t2 6");
        none(check, talk, 1, 0, true);
        none(check, talk, 1, 0, false);
        talk.done("INSERT t1 10 6", "INSERT t1 -5 6", "INSERT t1 3 6");
        amongThree(check, talk);
        atTheEdges(check, talk);
        check.end();
    }

    private static void is(Check check, Talk talk, int v, boolean up, int due) {
        check.same("nearest(1, " + v + ", " + up + ")", talk.base.nearest(1, v, up), due);
    }

    private static void none(Check check, Talk talk, int table, int v, boolean up) {
        check.throwsState("nearest(" + table + ", " + v + ", " + up + ")", () -> talk.base.nearest(table, v, up));
    }

    private static void amongThree(Check check, Talk talk) {
        is(check, talk, -5, true, -5);
        is(check, talk, -5, false, -5);
        is(check, talk, -6, true, -5);
        none(check, talk, 1, -6, false);
        is(check, talk, -4, true, 3);
        is(check, talk, -4, false, -5);
        is(check, talk, 6, true, 10);
        is(check, talk, 6, false, 3);
        is(check, talk, 10, true, 10);
        is(check, talk, 10, false, 10);
        is(check, talk, 11, false, 10);
        none(check, talk, 1, 11, true);
        is(check, talk, Integer.MIN_VALUE, true, -5);
        is(check, talk, Integer.MAX_VALUE, false, 10);
        none(check, talk, 1, Integer.MIN_VALUE, false);
        none(check, talk, 1, Integer.MAX_VALUE, true);
    }

    private static void atTheEdges(Check check, Talk talk) {
        talk.done("INSERT t1 -2147483648 0", "INSERT t1 2147483647 0", "DELETE t1 WHERE c0 IS 3");
        is(check, talk, Integer.MIN_VALUE, true, Integer.MIN_VALUE);
        is(check, talk, Integer.MIN_VALUE, false, Integer.MIN_VALUE);
        is(check, talk, Integer.MAX_VALUE, true, Integer.MAX_VALUE);
        is(check, talk, Integer.MAX_VALUE, false, Integer.MAX_VALUE);
        is(check, talk, Integer.MAX_VALUE - 1, false, 10);
        is(check, talk, 3, true, 10);
        is(check, talk, 3, false, -5);
        check.throwsArgument("nearest(5, 0, true)", () -> talk.base.nearest(5, 0, true));
    }
}
