import java.util.List;

/** Talks to one object in statements written out: t3 is a TABLE, c12 a COLUMN, -7 a NUMBER. */
final class Talk {
    static final List<String> WORDS = List.of("CREATE", "INSERT", "DELETE", "SELECT", "ALL", "COUNT", "SUM",
            "FROM", "WHERE", "AND", "IS", "BELOW", "ABOVE", "FALLING");

    final CursorBase base = new CursorBase();
    private final Check check;

    Talk(Check check) {
        this.check = check;
    }

    void feed(String tokens) {
        for (String token : tokens.split(" ")) {
            if (!token.isEmpty()) {
                feedOne(token);
            }
        }
    }

    private void feedOne(String token) {
        if (WORDS.contains(token)) {
            base.feed(0, WORDS.indexOf(token));
        } else if (token.charAt(0) == 't') {
            base.feed(1, Integer.parseInt(token.substring(1)));
        } else if (token.charAt(0) == 'c') {
            base.feed(2, Integer.parseInt(token.substring(1)));
        } else {
            base.feed(3, Integer.parseInt(token));
        }
    }

    int prepare(String tokens) {
        feed(tokens);
        return base.prepare();
    }

    void prepared(String tokens, int due) {
        check.same("prepare() of '" + tokens + "'", prepare(tokens), due);
    }

    /** Statements that are right and end at their first step with 0. */
    void done(String... statements) {
        for (String statement : statements) {
            stepped(statement, 0);
        }
    }

    void stepped(String tokens, int due) {
        prepared(tokens, 0);
        check.same("step() of '" + tokens + "'", base.step(), due);
    }

    /** A SELECT that gives just these rows. */
    void selected(String tokens, long[]... due) {
        prepared(tokens, 0);
        gives(tokens, due);
    }

    /** The rows that the statement at hand still gives, and its end. */
    void gives(String what, long[]... due) {
        for (int i = 0; i < due.length; i++) {
            check.same("step() to row " + i + " of '" + what + "'", base.step(), 1);
            isOn("row " + i + " of '" + what + "'", due[i]);
        }
        check.same("step() to the end of '" + what + "'", base.step(), 0);
    }

    void isOn(String what, long... due) {
        check.same("width() on " + what, base.width(), due.length);
        for (int j = 0; j < due.length; j++) {
            check.same("column(" + j + ") on " + what, base.column(j), due[j]);
        }
    }

    static long[] row(long... columns) {
        return columns;
    }
}
