/** Terms: TOKENS. */
final class TokensTest {
    private final Check check = new Check();

    public static void main(String[] args) {
        new TokensTest().sentences();
    }

    private void sentences() {
        check.sentence("TOKENS have a kind and a number", this::kinds);
        check.sentence("kind 0 a WORD (0 CREATE, 1 INSERT, 2 DELETE, 3 SELECT, 4 ALL, 5 COUNT, 6 SUM, 7 FROM, 8 WHERE, "
                + "9 AND, 10 IS, 11 BELOW, 12 ABOVE, 13 FALLING)", this::words, this::meaningOfWords);
        check.sentence("1 a TABLE (0 .. 9)", this::tables);
        check.sentence("2 a COLUMN (0 .. 5 of the first table that is named, 10 .. 15 of the second one)",
                this::columns, this::columnsOfTheFirstTable, this::columnsOfTheSecondTable);
        check.sentence("3 a NUMBER (any int)", this::numbers, this::numbersAreKept);
        check.sentence("At most 60 of them are PENDING.", this::sixty, this::statementOfSixty);
        check.end();
    }

    /** Fed to a new object: taken as the first token, or refused so that the next one is the first. */
    private void fed(int kind, int number, boolean isToken) {
        CursorBase base = new CursorBase();
        String call = "feed(" + kind + ", " + number + ")";
        if (isToken) {
            check.same(call, base.feed(kind, number), 1);
        } else {
            check.throwsArgument(call, () -> base.feed(kind, number));
            check.same("the feed behind " + call, base.feed(3, 0), 1);
        }
    }

    private void kinds() {
        for (int kind : new int[] {Integer.MIN_VALUE, -1, 4, 10, Integer.MAX_VALUE}) {
            for (int number : new int[] {Integer.MIN_VALUE, -1, 0, 5, 10, Integer.MAX_VALUE}) {
                fed(kind, number, false);
            }
        }
        for (int kind = 0; kind <= 3; kind++) {
            fed(kind, 0, true);
        }
    }

    private void farNumbers(int kind) {
        for (int number : new int[] {Integer.MIN_VALUE, -256, -10, 100, 256, Integer.MAX_VALUE}) {
            fed(kind, number, false);
        }
    }

    private void words() {
        farNumbers(0);
        for (int number = -2; number <= 20; number++) {
            fed(0, number, number >= 0 && number <= 13);
        }
    }

    /** Each word once at least, by the number that the document gives it. */
    private void meaningOfWords() {
        CursorBase base = new CursorBase();
        is(base, 0, 0, 1, 2, 3, 2);
        for (int key = 1; key <= 3; key++) {
            is(base, 0, 1, 1, 2, 3, key, 3, 10 * key);
        }
        is(base, 0, 3, 0, 4, 0, 7, 1, 2, 0, 8, 2, 0, 0, 11, 3, 3, 0, 9, 2, 1, 0, 12, 3, 0, 0, 13);
        check.same("FALLING", base.column(0), 2);
        is(base, 0, 3, 0, 5, 0, 7, 1, 2);
        check.same("COUNT", base.column(0), 3);
        is(base, 0, 3, 0, 6, 2, 1, 0, 7, 1, 2, 0, 8, 2, 0, 0, 10, 3, 3);
        check.same("SUM, IS", base.column(0), 30);
        is(base, 0, 3, 2, 0, 0, 7, 1, 2, 0, 8, 2, 0, 0, 12, 3, 1);
        check.same("ABOVE", base.column(0), 2);
        is(base, 0, 2, 1, 2, 0, 8, 2, 0, 0, 11, 3, 3);
        check.same("rows(2) behind DELETE", base.rows(2), 1);
        check.same("BELOW", base.nearest(2, 0, true), 3);
    }

    /** A right statement by its tokens' kinds and numbers, and its first step. */
    private void is(CursorBase base, int... tokens) {
        for (int i = 0; i < tokens.length; i += 2) {
            base.feed(tokens[i], tokens[i + 1]);
        }
        check.same("prepare()", base.prepare(), 0);
        check.same("step()", base.step(), tokens[1] == 3 ? 1 : 0);
    }

    private void tables() {
        farNumbers(1);
        for (int number = -2; number <= 20; number++) {
            fed(1, number, number >= 0 && number <= 9);
        }
    }

    private void columns() {
        farNumbers(2);
        for (int number = -2; number <= 30; number++) {
            fed(2, number, number >= 0 && number <= 5 || number >= 10 && number <= 15);
        }
    }

    private Talk sixAndSix() {
        return new Talk(check, "CREATE t7 6", "CREATE t3 6", "INSERT t7 1 2 3 4 5 6", "INSERT t3 11 12 13 14 15 16");
    }

    private void columnsOfTheFirstTable() {
        Talk talk = sixAndSix();
        for (int c = 0; c <= 5; c++) {
            talk.selected("SELECT c" + c + " FROM t7", Talk.row(c + 1));
            talk.selected("SELECT c" + c + " FROM t3 t7", Talk.row(c + 11));
            talk.selected("SELECT COUNT FROM t7 t3 WHERE c" + c + " IS " + (c + 1), Talk.row(1));
        }
    }

    private void columnsOfTheSecondTable() {
        Talk talk = sixAndSix();
        for (int c = 10; c <= 15; c++) {
            talk.selected("SELECT c" + c + " FROM t7 t3", Talk.row(c + 1));
            talk.selected("SELECT c" + c + " FROM t3 t7", Talk.row(c - 9));
            talk.selected("SELECT COUNT FROM t7 t3 WHERE c" + c + " IS " + (c + 1), Talk.row(1));
        }
    }

    private void numbers() {
        for (int number : new int[] {Integer.MIN_VALUE, Integer.MIN_VALUE + 1, -1, 0, 1, 14, 60, Integer.MAX_VALUE}) {
            fed(3, number, true);
        }
    }

    private void numbersAreKept() {
        Talk talk = new Talk(check, "CREATE t0 2", "INSERT t0 -2147483648 2147483647");
        talk.selected("SELECT ALL FROM t0 WHERE c0 IS -2147483648 AND 2147483647 IS c1",
                Talk.row(-2147483648, 2147483647));
    }

    private void sixty() {
        CursorBase base = new CursorBase();
        for (int i = 1; i <= 60; i++) {
            check.same("feed " + i, base.feed(3, i), i);
        }
        for (int kind = 0; kind <= 3; kind++) {
            int other = kind;
            check.throwsState("feed 61 of kind " + kind, () -> base.feed(other, 0));
        }
    }

    /** All 60 are seen: a statement of that length is right, and one whose last token is wrong is not. */
    private void statementOfSixty() {
        Talk talk = new Talk(check, "CREATE t0 1");
        talk.prepared("INSERT t0" + " 1".repeat(58), -5);
        talk.prepared("INSERT t0" + " 1".repeat(57) + " c0", -1);
        talk.feed("INSERT t0" + " 1".repeat(58));
        check.throwsState("feed 61", () -> talk.base.feed(2, 0));
        check.same("prepare() of the 60 that were taken", talk.base.prepare(), -5);
    }
}
