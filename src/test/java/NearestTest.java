/** Promise 10: nearest. */
final class NearestTest {
    private final Check check = new Check();

    public static void main(String[] args) {
        new NearestTest().sentences();
    }

    private void sentences() {
        check.sentence("The key of a table that is the least one not below v (up)", this::leastNotBelow,
                this::leastAtTheEnds, this::leastOfOneKey, this::leastOfManyKeys);
        check.sentence("or the greatest one not above it", this::greatestNotAbove, this::greatestAtTheEnds,
                this::greatestOfOneKey, this::greatestOfManyKeys);
        check.sentence("IllegalArgumentException, when the table is not there", this::tableIsNotThere, this::noTable);
        check.sentence("IllegalStateException, when there is no such key", this::noKeyAtAll, this::noKeyUp,
                this::noKeyDown, this::noKeyBehindDelete);
        check.end();
    }

    /** The keys -5, 3 and 10 in t1, and keys in the tables before and behind it that are none of its own. */
    private Talk threeKeys() {
        return new Talk(check, "CREATE t1 2", "CREATE t2 1", "CREATE t0 1", "INSERT t0 6", "INSERT t2 6",
                "INSERT t0 -9", "INSERT t2 19", "INSERT t1 10 6", "INSERT t1 -5 6", "INSERT t1 3 6");
    }

    private void is(Talk talk, int v, boolean up, int due) {
        check.same("nearest(1, " + v + ", " + up + ")", talk.base.nearest(1, v, up), due);
    }

    private void none(Talk talk, int v, boolean up) {
        check.throwsState("nearest(1, " + v + ", " + up + ")", () -> talk.base.nearest(1, v, up));
    }

    private void leastNotBelow() {
        Talk talk = threeKeys();
        is(talk, Integer.MIN_VALUE, true, -5);
        is(talk, -6, true, -5);
        is(talk, -5, true, -5);
        is(talk, -4, true, 3);
        is(talk, 3, true, 3);
        is(talk, 4, true, 10);
        is(talk, 10, true, 10);
    }

    private void greatestNotAbove() {
        Talk talk = threeKeys();
        is(talk, -5, false, -5);
        is(talk, -4, false, -5);
        is(talk, 2, false, -5);
        is(talk, 3, false, 3);
        is(talk, 9, false, 3);
        is(talk, 10, false, 10);
        is(talk, 11, false, 10);
        is(talk, Integer.MAX_VALUE, false, 10);
    }

    private Talk keysAtTheEnds() {
        Talk talk = threeKeys();
        talk.done("INSERT t1 -2147483648 0", "INSERT t1 2147483647 0");
        return talk;
    }

    private void leastAtTheEnds() {
        Talk talk = keysAtTheEnds();
        is(talk, Integer.MIN_VALUE, true, Integer.MIN_VALUE);
        is(talk, Integer.MIN_VALUE + 1, true, -5);
        is(talk, Integer.MAX_VALUE - 1, true, Integer.MAX_VALUE);
        is(talk, Integer.MAX_VALUE, true, Integer.MAX_VALUE);
    }

    private void greatestAtTheEnds() {
        Talk talk = keysAtTheEnds();
        is(talk, Integer.MIN_VALUE, false, Integer.MIN_VALUE);
        is(talk, Integer.MIN_VALUE + 1, false, Integer.MIN_VALUE);
        is(talk, Integer.MAX_VALUE - 1, false, 10);
        is(talk, Integer.MAX_VALUE, false, Integer.MAX_VALUE);
    }

    private void leastOfOneKey() {
        Talk talk = new Talk(check, "CREATE t1 1", "INSERT t1 0");
        is(talk, Integer.MIN_VALUE, true, 0);
        is(talk, -1, true, 0);
        is(talk, 0, true, 0);
        none(talk, 1, true);
        none(talk, Integer.MAX_VALUE, true);
    }

    private void greatestOfOneKey() {
        Talk talk = new Talk(check, "CREATE t1 1", "INSERT t1 0");
        none(talk, Integer.MIN_VALUE, false);
        none(talk, -1, false);
        is(talk, 0, false, 0);
        is(talk, 1, false, 0);
        is(talk, Integer.MAX_VALUE, false, 0);
    }

    private void leastOfManyKeys() {
        Talk talk = Talk.full(check, 2);
        for (int key = 1; key < 400; key += 2) {
            is(talk, key - 1, true, key);
        }
    }

    private void greatestOfManyKeys() {
        Talk talk = Talk.full(check, 2);
        for (int key = 1; key < 400; key += 2) {
            is(talk, key + 1, false, key);
        }
    }

    private void refuses(CursorBase base, int table) {
        for (int v : new int[] {Integer.MIN_VALUE, 0, Integer.MAX_VALUE}) {
            check.throwsArgument("nearest(" + table + ", " + v + ", true)", () -> base.nearest(table, v, true));
            check.throwsArgument("nearest(" + table + ", " + v + ", false)", () -> base.nearest(table, v, false));
        }
    }

    private void tableIsNotThere() {
        Talk talk = new Talk(check);
        for (int t = 0; t <= 9; t++) {
            refuses(talk.base, t);
        }
        talk = threeKeys();
        refuses(talk.base, 3);
        talk.base.clear();
        refuses(talk.base, 1);
    }

    private void noTable() {
        Talk talk = threeKeys();
        for (int t : new int[] {-1, 10, Integer.MIN_VALUE, Integer.MAX_VALUE}) {
            refuses(talk.base, t);
        }
    }

    private void noKeyAtAll() {
        Talk talk = new Talk(check, "CREATE t1 1", "CREATE t0 1", "CREATE t2 1", "INSERT t0 0", "INSERT t2 0");
        for (int v : new int[] {Integer.MIN_VALUE, -1, 0, 1, Integer.MAX_VALUE}) {
            none(talk, v, true);
            none(talk, v, false);
        }
    }

    private void noKeyUp() {
        Talk talk = threeKeys();
        none(talk, 11, true);
        none(talk, Integer.MAX_VALUE, true);
    }

    private void noKeyDown() {
        Talk talk = threeKeys();
        none(talk, -6, false);
        none(talk, Integer.MIN_VALUE, false);
    }

    private void noKeyBehindDelete() {
        Talk talk = threeKeys();
        talk.done("DELETE t1 WHERE c0 IS 10");
        none(talk, 4, true);
        is(talk, 10, false, 3);
        talk.done("DELETE t1");
        none(talk, 3, true);
        none(talk, 3, false);
    }
}
