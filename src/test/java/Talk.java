import java.util.List;

/** Talks to one object in statements written out: t3 is a TABLE, c12 a COLUMN, -7 a NUMBER. */
final class Talk {
    static final List<String> WORDS = List.of("CREATE", "INSERT", "DELETE", "SELECT", "ALL", "COUNT", "SUM",
            "FROM", "WHERE", "AND", "IS", "BELOW", "ABOVE", "FALLING");

    final CursorBase base = new CursorBase();
    private final Check check;

    /** A new object on which these statements have been done. */
    Talk(Check check, String... statements) {
        this.check = check;
        done(statements);
    }

    /** With 400 rows in the tables 0 to count - 1, in turn: the keys 0 to 399, and beside each its double. */
    static Talk full(Check check, int count) {
        Talk talk = new Talk(check);
        for (int t = 0; t < count; t++) {
            talk.done("CREATE t" + t + " 2");
        }
        for (int i = 0; i < 400; i++) {
            int key = i * 37 % 400;
            talk.done("INSERT t" + key % count + " " + key + " " + 2 * key);
        }
        return talk;
    }

    void feed(String tokens) {
        for (String token : tokens.split(" ")) {
            if (!token.isEmpty()) {
                feedOne(token);
            }
        }
    }

    private void feedOne(String token) {
        int[] pair = tokenOf(token);
        base.feed(pair[0], pair[1]);
    }

    /** The kind and the number of a token that is written out. */
    static int[] tokenOf(String token) {
        if (WORDS.contains(token)) {
            return new int[] {0, WORDS.indexOf(token)};
        }
        if (token.charAt(0) == 't' || token.charAt(0) == 'c') {
            return new int[] {token.charAt(0) == 't' ? 1 : 2, Integer.parseInt(token.substring(1))};
        }
        return new int[] {3, Integer.parseInt(token)};
    }

    int prepare(String tokens) {
        feed(tokens);
        return base.prepare();
    }

    void prepared(String tokens, int due) {
        check.same("prepare() of '" + tokens + "'", prepare(tokens), due);
    }

    /** Statements that are right and end at their first step with 0. */
    void done(String... statements) {
        for (String statement : statements) {
            stepped(statement, 0);
        }
    }

    void stepped(String tokens, int due) {
        prepared(tokens, 0);
        step("of '" + tokens + "'", due);
    }

    void step(String what, int due) {
        check.same("step() " + what, base.step(), due);
    }

    void reset(String what, int due) {
        check.same("reset() " + what, base.reset(), due);
    }

    void rows(int table, int due) {
        check.same("rows(" + table + ")", base.rows(table), due);
    }

    void all(int due) {
        check.same("all()", base.all(), due);
    }

    /** A SELECT that gives just these rows. */
    void selected(String tokens, long[]... due) {
        prepared(tokens, 0);
        gives(tokens, due);
    }

    /** The rows that the statement at hand still gives, and its end. */
    void gives(String what, long[]... due) {
        for (int i = 0; i < due.length; i++) {
            step("to row " + i + " of '" + what + "'", 1);
            isOn("row " + i + " of '" + what + "'", due[i]);
        }
        step("to the end of '" + what + "'", 0);
    }

    void isOn(String what, long... due) {
        check.same("width() on " + what, base.width(), due.length);
        for (int j = 0; j < due.length; j++) {
            check.same("column(" + j + ") on " + what, base.column(j), due[j]);
        }
    }

    void hasNoRow(String what) {
        check.throwsState("column(0) " + what, () -> base.column(0));
    }

    static long[] row(long... columns) {
        return columns;
    }
}
