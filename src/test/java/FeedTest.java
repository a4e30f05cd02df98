/** Promise 2: feed. */
final class FeedTest {
    private final Check check = new Check();

    public static void main(String[] args) {
        new FeedTest().sentences();
    }

    private void sentences() {
        check.sentence("One more pending token: how many there are.", this::counts, this::countsAnewBehindPrepare);
        check.sentence("IllegalArgumentException, when it is none", this::noToken, this::noTokenLeavesThePending,
                this::noTokenWhenThereAreSixty);
        check.sentence("IllegalStateException, when there are 60", this::sixtyFirst, this::sixtyFirstLeavesThePending,
                this::roomAgainBehindPrepare);
        check.end();
    }

    private CursorBase withSixty() {
        CursorBase base = new CursorBase();
        for (int i = 1; i <= 60; i++) {
            check.same("feed " + i, base.feed(3, i), i);
        }
        return base;
    }

    private void counts() {
        CursorBase base = new CursorBase();
        for (int i = 1; i <= 60; i++) {
            check.same("feed " + i, base.feed(i % 4, i % 6), i);
        }
    }

    private void countsAnewBehindPrepare() {
        Talk talk = new Talk(check);
        talk.feed("1 2 3");
        check.same("prepare() of no statement", talk.base.prepare(), -1);
        check.same("feed behind a wrong prepare()", talk.base.feed(0, 0), 1);
        talk.feed("t0");
        check.same("the third feed", talk.base.feed(3, 1), 3);
        check.same("prepare()", talk.base.prepare(), 0);
        check.same("feed behind a right prepare()", talk.base.feed(0, 0), 1);
    }

    private void refuses(CursorBase base, int kind, int number) {
        check.throwsArgument("feed(" + kind + ", " + number + ")", () -> base.feed(kind, number));
    }

    private void refusesAllThatAreNone(CursorBase base) {
        refuses(base, -1, 0);
        refuses(base, 4, 0);
        refuses(base, Integer.MIN_VALUE, 0);
        refuses(base, Integer.MAX_VALUE, 0);
        refuses(base, 0, -1);
        refuses(base, 0, 14);
        refuses(base, 1, -1);
        refuses(base, 1, 10);
        refuses(base, 2, -1);
        refuses(base, 2, 6);
        refuses(base, 2, 9);
        refuses(base, 2, 16);
    }

    private void noToken() {
        refusesAllThatAreNone(new CursorBase());
    }

    private void noTokenLeavesThePending() {
        Talk talk = new Talk(check);
        talk.feed("CREATE t3");
        refusesAllThatAreNone(talk.base);
        check.same("the third feed", talk.base.feed(3, 2), 3);
        check.same("prepare()", talk.base.prepare(), 0);
    }

    private void noTokenWhenThereAreSixty() {
        refusesAllThatAreNone(withSixty());
    }

    private void sixtyFirst() {
        CursorBase base = withSixty();
        for (int i = 0; i < 3; i++) {
            check.throwsState("feed(3, 1) with 60", () -> base.feed(3, 1));
            check.throwsState("feed(0, 13) with 60", () -> base.feed(0, 13));
            check.throwsState("feed(1, 9) with 60", () -> base.feed(1, 9));
            check.throwsState("feed(2, 15) with 60", () -> base.feed(2, 15));
        }
    }

    /** What was refused is not behind the 60, and has not come in place of one of them. */
    private void sixtyFirstLeavesThePending() {
        Talk talk = new Talk(check, "CREATE t0 1");
        talk.feed("INSERT t0" + " 1".repeat(58));
        check.throwsState("feed(0, 13) with 60", () -> talk.base.feed(0, 13));
        check.same("prepare() of 58 numbers", talk.base.prepare(), -5);
    }

    private void roomAgainBehindPrepare() {
        CursorBase base = withSixty();
        check.throwsState("feed 61", () -> base.feed(3, 61));
        check.same("prepare() of 60 numbers", base.prepare(), -1);
        for (int i = 1; i <= 60; i++) {
            check.same("feed " + i + " behind that", base.feed(3, i), i);
        }
        check.throwsState("feed 61 again", () -> base.feed(3, 61));
    }
}
