/** Promise 2: feed. */
final class FeedTest {
    private static final int[] EDGES = {Integer.MIN_VALUE, -1, 0, 5, 6, 9, 10, 13, 14, 15, 16, 20, Integer.MAX_VALUE};

    public static void main(String[] args) {
        Check check = new Check();
        for (int kind : new int[] {Integer.MIN_VALUE, -1, 0, 1, 2, 3, 4, Integer.MAX_VALUE}) {
            for (int number : EDGES) {
                feedOne(check, kind, number);
            }
        }
        counts(check);
        refusesTheNextAfterSixty(check);
        check.end();
    }

    private static boolean isToken(int kind, int number) {
        switch (kind) {
            case 0:
                return 0 <= number && number <= 13;
            case 1:
                return 0 <= number && number <= 9;
            case 2:
                return 0 <= number && number <= 5 || 10 <= number && number <= 15;
            default:
                return kind == 3;
        }
    }

    private static void feedOne(Check check, int kind, int number) {
        CursorBase base = new CursorBase();
        String call = "feed(" + kind + ", " + number + ")";
        if (isToken(kind, number)) {
            check.same(call, base.feed(kind, number), 1);
        } else {
            check.throwsArgument(call, () -> base.feed(kind, number));
            check.same("the feed behind " + call, base.feed(0, 0), 1);
        }
    }

    private static void counts(Check check) {
        Talk talk = new Talk(check);
        for (int i = 1; i <= 3; i++) {
            check.same("feed " + i, talk.base.feed(3, i), i);
        }
        talk.base.prepare();
        check.same("feed behind a wrong prepare()", talk.base.feed(0, 0), 1);
        talk.feed("t0 1");
        check.same("prepare()", talk.base.prepare(), 0);
        check.same("feed behind a right prepare()", talk.base.feed(0, 0), 1);
    }

    private static void refusesTheNextAfterSixty(Check check) {
        CursorBase base = new CursorBase();
        for (int i = 1; i <= 60; i++) {
            check.same("feed " + i, base.feed(3, i), i);
        }
        check.throwsState("feed 61", () -> base.feed(3, 61));
        check.throwsState("feed 61 again", () -> base.feed(0, 3));
        check.throwsArgument("feed of no token when there are 60", () -> base.feed(0, 14));
        check.same("prepare() of 60 numbers", base.prepare(), -1);
        check.same("feed behind that", base.feed(3, 1), 1);
    }
}
