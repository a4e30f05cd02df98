import java.util.ArrayList;
import java.util.List;

/** Terms: what is wrong with a statement. */
final class WrongTest {
    private static final int SYNTAX = -1;
    private static final int NO_TABLE = -2;
    private static final int NO_COLUMN = -3;
    private static final int EXISTS = -4;
    private static final int ARITY = -5;

    /** On the tables of twoTables(). */
    private static final String[] RIGHT = {"CREATE t9 1", "CREATE t2 6", "INSERT t0 1 2", "INSERT t1 1 2 3 4 5 6",
        "DELETE t0", "DELETE t0 WHERE c0 IS 1", "DELETE t0 WHERE 1 IS 1 AND c0 BELOW c1 AND 3 ABOVE c1",
        "SELECT ALL FROM t0", "SELECT ALL FROM t0 t1", "SELECT ALL FROM t1 t1", "SELECT ALL FROM t0 FALLING",
        "SELECT ALL FROM t0 t0 FALLING", "SELECT c1 FROM t0", "SELECT c1 c1 c11 FROM t0 t0", "SELECT COUNT FROM t0",
        "SELECT COUNT FROM t0 t1 WHERE c15 IS c1 FALLING", "SELECT SUM c1 FROM t0",
        "SELECT SUM c15 FROM t0 t1 WHERE c0 BELOW 2", "SELECT c0 FROM t0 WHERE 1 ABOVE 2 AND c0 IS c0 FALLING"};

    private final Check check = new Check();

    public static void main(String[] args) {
        new WrongTest().sentences();
    }

    private void sentences() {
        check.sentence("A statement is wrong, the first of these", this::right, this::syntaxBeforeAll,
                this::noTableBeforeNoColumn, this::noTableBeforeArity, this::existsBeforeArity);
        check.sentence("SYNTAX (-1): the pending tokens are not just such a statement", this::noTokens,
                this::syntaxOfCreateAndInsert, this::syntaxOfDelete, this::syntaxOfSelect,
                this::everyFewTokens, this::everySmallChange);
        check.sentence("NO_TABLE (-2): a table that is named is not there", this::noTable, this::noSecondTable);
        check.sentence("EXISTS (-4): that of CREATE is there", this::exists);
        check.sentence("NO_COLUMN (-3): the first, or second, table that is named does not have a COLUMN",
                this::noColumnOfTheFirst, this::noColumnOfTheSecond, this::noColumnAtEachPlace);
        check.sentence("or there is no second one", this::noColumnWithoutTheSecond);
        check.sentence("ARITY (-5): CREATE's number is not 1 .. 6", this::arityOfCreate);
        check.sentence("or INSERT has not as many numbers as the table columns", this::arityOfInsert);
        check.end();
    }

    /** t0 and t1, of two columns and of six, are there; t2 is not. */
    private Talk twoTables() {
        return new Talk(check, "CREATE t0 2", "CREATE t1 6");
    }

    /** A new object for each statement, as an object is good for 512 calls alone. */
    private void each(int due, String... statements) {
        for (String statement : statements) {
            twoTables().prepared(statement, due);
        }
    }

    private void right() {
        each(0, RIGHT);
    }

    private void syntaxBeforeAll() {
        each(SYNTAX, "DELETE t2 FALLING", "SELECT ALL FROM t2 WHERE", "INSERT t2", "INSERT t2 c0", "SELECT ALL FROM t0 t2 t2");
        each(SYNTAX, "CREATE t0", "CREATE t0 1 1");
        each(SYNTAX, "SELECT c5 FROM t0 WHERE", "DELETE t0 WHERE c10 IS", "SELECT SUM c5 c5 FROM t0");
        each(SYNTAX, "CREATE t2 9 9", "CREATE t2 0 FALLING", "INSERT t0 1 c0", "INSERT t0 1 2 3 t0");
    }

    private void noTableBeforeNoColumn() {
        each(NO_TABLE, "SELECT c5 FROM t2", "SELECT c5 FROM t0 t2", "SELECT c15 FROM t2 t0", "SELECT SUM c10 FROM t2",
                "DELETE t2 WHERE c10 IS 1", "SELECT ALL FROM t0 t2 WHERE c5 IS c15");
    }

    private void noTableBeforeArity() {
        each(NO_TABLE, "INSERT t2 1", "INSERT t2 1 2 3 4 5 6", "INSERT t2 1 2 3 4 5 6 7", "INSERT t2" + " 1".repeat(58));
    }

    private void existsBeforeArity() {
        each(EXISTS, "CREATE t0 0", "CREATE t0 7", "CREATE t1 -2147483648", "CREATE t1 2147483647");
    }

    private void noTokens() {
        each(SYNTAX, "");
        check.same("prepare() of a new object", new CursorBase().prepare(), SYNTAX);
    }

    private void syntaxOfCreateAndInsert() {
        each(SYNTAX, "CREATE", "CREATE t2", "CREATE 2 t2", "CREATE t2 c2", "CREATE t2 1 1", "CREATE c2 1",
                "CREATE t2 t2 1", "t2 1", "3", "c0", "CREATE t2 1 FALLING", "CREATE t2 1 WHERE 1 IS 1",
                "CREATE CREATE t2 1", "INSERT", "INSERT t0", "INSERT 1 2", "INSERT t0 c0", "INSERT t0 1 c1",
                "INSERT t0 1 2 WHERE 1 IS 1", "INSERT t0 1 2 t0", "INSERT t0 t0 1 2", "INSERT t0 1 2 INSERT t0 3 4",
                "ALL", "FROM t0", "FALLING", "COUNT FROM t0", "WHERE c0 IS 1", "AND t0", "ALL FROM t0", "IS", "BELOW",
                "ABOVE t0 1", "SUM c0 FROM t0");
    }

    private void syntaxOfDelete() {
        each(SYNTAX, "DELETE", "DELETE 0", "DELETE FROM t0", "DELETE t0 t1", "DELETE t0 FALLING", "DELETE t0 1",
                "DELETE t0 c0 IS 1", "DELETE t0 WHERE", "DELETE t0 WHERE c0", "DELETE t0 WHERE c0 IS",
                "DELETE t0 WHERE IS 1", "DELETE t0 WHERE c0 1", "DELETE t0 WHERE c0 IS t0", "DELETE t0 WHERE t0 IS c0",
                "DELETE t0 WHERE c0 IS IS 1", "DELETE t0 WHERE c0 IS 1 c1", "DELETE t0 WHERE c0 AND 1",
                "DELETE t0 WHERE c0 FALLING 1", "DELETE t0 AND c0 IS 1", "DELETE t0 WHERE c0 IS 1 AND",
                "DELETE t0 WHERE c0 IS 1 WHERE c0 IS 1", "DELETE t0 WHERE c0 IS 1 c1 IS 1",
                "DELETE t0 WHERE c0 IS 1 AND WHERE c1 IS 1", "DELETE t0 WHERE c0 IS 1 FALLING", "DELETE ALL t0");
    }

    private void syntaxOfSelect() {
        each(SYNTAX, "SELECT", "SELECT ALL", "SELECT ALL FROM", "SELECT FROM t0", "SELECT ALL t0", "SELECT t0",
                "SELECT ALL FROM 0", "SELECT ALL FROM c0", "SELECT ALL ALL FROM t0", "SELECT ALL c0 FROM t0",
                "SELECT c0 ALL FROM t0", "SELECT COUNT c0 FROM t0", "SELECT c0 COUNT FROM t0", "SELECT SUM FROM t0",
                "SELECT SUM 1 FROM t0", "SELECT SUM c0 c1 FROM t0", "SELECT SUM ALL FROM t0", "SELECT 1 FROM t0",
                "SELECT c0 1 FROM t0", "SELECT ALL FROM t0 t0 t0", "SELECT ALL FROM t0 FALLING FALLING",
                "SELECT ALL FROM t0 FALLING WHERE c0 IS 1", "SELECT ALL FROM t0 FALLING t0", "SELECT ALL FROM t0 1",
                "SELECT ALL FROM t0 WHERE FALLING", "SELECT ALL FROM t0 WHERE c0 IS FALLING", "SELECT ALL FROM FALLING",
                "SELECT ALL FROM t0 WHERE c0 IS 1 t0", "SELECT ALL FROM t0 AND c0 IS 1", "SELECT ALL FROM WHERE t0",
                "SELECT ALL FROM t0 SELECT ALL FROM t0", "SELECT SELECT ALL FROM t0", "SELECT COUNT SUM c0 FROM t0",
                "SELECT ALL FROM t0 FROM t0", "SELECT ALL WHERE c0 IS 1 FROM t0");
    }

    /** One token of each word, and one of each other kind. */
    private static List<String> alphabet() {
        List<String> tokens = new ArrayList<>(Talk.WORDS);
        tokens.addAll(List.of("t0", "c0", "1"));
        return tokens;
    }

    /** All tokens one after the other, up to four of them, held against the model. */
    private void everyFewTokens() {
        Pair pair = new Pair();
        List<String> shorter = List.of("");
        for (int length = 1; length <= 4; length++) {
            List<String> longer = new ArrayList<>();
            for (String tokens : shorter) {
                for (String token : alphabet()) {
                    longer.add(tokens + " " + token);
                    pair.agree(tokens + " " + token);
                }
            }
            shorter = longer;
        }
    }

    /** Each right statement with a token left out, put in or changed at each place, held against the model. */
    private void everySmallChange() {
        Pair pair = new Pair();
        for (String statement : RIGHT) {
            List<String> tokens = List.of(statement.split(" "));
            for (int i = 0; i <= tokens.size(); i++) {
                String before = String.join(" ", tokens.subList(0, i));
                String from = String.join(" ", tokens.subList(i, tokens.size()));
                String behind = String.join(" ", tokens.subList(Math.min(i + 1, tokens.size()), tokens.size()));
                pair.agree(before + " " + behind);
                pair.agree(before);
                for (String token : alphabet()) {
                    pair.agree(before + " " + token + " " + behind);
                    pair.agree(before + " " + token + " " + from);
                }
            }
        }
    }

    /** The program and the model, with the same tables. */
    private final class Pair {
        private final Talk talk = twoTables();
        private final Model model = new Model();

        Pair() {
            for (String statement : new String[] {"CREATE t0 2", "CREATE t1 6"}) {
                modelPrepares(statement);
                model.step();
            }
        }

        private int modelPrepares(String tokens) {
            for (String token : tokens.split(" ")) {
                if (!token.isEmpty()) {
                    int[] pair = Talk.tokenOf(token);
                    model.feed(pair[0], pair[1]);
                }
            }
            return model.prepare();
        }

        void agree(String tokens) {
            talk.prepared(tokens, modelPrepares(tokens));
        }
    }

    private void noTable() {
        each(NO_TABLE, "INSERT t2 1", "INSERT t9 1", "DELETE t2", "DELETE t2 WHERE c0 IS 1", "SELECT ALL FROM t2",
                "SELECT c0 FROM t2", "SELECT COUNT FROM t9", "SELECT SUM c0 FROM t2");
        each(0, "CREATE t2 1");
        for (int t = 0; t <= 9; t++) {
            new Talk(check).prepared("DELETE t" + t, NO_TABLE);
        }
    }

    private void noSecondTable() {
        each(NO_TABLE, "SELECT ALL FROM t0 t2", "SELECT ALL FROM t2 t0", "SELECT ALL FROM t2 t2",
                "SELECT COUNT FROM t1 t9 FALLING", "SELECT c0 FROM t0 t2", "SELECT SUM c0 FROM t0 t2");
    }

    private void exists() {
        each(EXISTS, "CREATE t0 1", "CREATE t0 2", "CREATE t1 6");
        Talk talk = new Talk(check, "CREATE t9 1", "INSERT t9 1");
        talk.prepared("CREATE t9 1", EXISTS);
        talk.rows(9, 1);
        talk.done("DELETE t9");
        talk.prepared("CREATE t9 1", EXISTS);
    }

    /** For each size of a table: its last column is there, the next one is not. */
    private void noColumnOfTheFirst() {
        for (int n = 1; n <= 6; n++) {
            Talk talk = new Talk(check, "CREATE t0 " + n, "CREATE t1 6");
            for (int c = 0; c <= 5; c++) {
                int due = c < n ? 0 : NO_COLUMN;
                talk.prepared("SELECT c" + c + " FROM t0", due);
                talk.prepared("SELECT c" + c + " FROM t0 t1", due);
                talk.prepared("DELETE t0 WHERE c" + c + " IS 1", due);
            }
        }
    }

    private void noColumnOfTheSecond() {
        for (int n = 1; n <= 6; n++) {
            Talk talk = new Talk(check, "CREATE t0 " + n, "CREATE t1 6");
            for (int c = 10; c <= 15; c++) {
                int due = c - 10 < n ? 0 : NO_COLUMN;
                talk.prepared("SELECT c" + c + " FROM t1 t0", due);
                talk.prepared("SELECT COUNT FROM t1 t0 WHERE 1 IS c" + c, due);
            }
        }
    }

    /** In the list, behind SUM, left and right in a condition, and in the last of the most of them. */
    private void noColumnAtEachPlace() {
        each(NO_COLUMN, "SELECT c2 FROM t0", "SELECT c2 c0 FROM t0", "SELECT c0 c0 c0 c0 c0 c0 c0 c2 FROM t0",
                "SELECT SUM c2 FROM t0", "SELECT SUM c12 FROM t1 t0", "SELECT ALL FROM t0 WHERE c2 IS 1",
                "SELECT ALL FROM t0 WHERE 1 IS c2", "SELECT ALL FROM t0 WHERE c0 IS c2", "SELECT ALL FROM t0 WHERE c2 IS c0",
                "SELECT COUNT FROM t0 WHERE 1 IS 1" + " AND 1 IS 1".repeat(6) + " AND 1 IS c2",
                "DELETE t0 WHERE 1 IS 1" + " AND 1 IS 1".repeat(6) + " AND c2 IS 1",
                "SELECT ALL FROM t0 t1 WHERE c5 IS c15", "SELECT ALL FROM t1 t0 WHERE c5 IS c15");
    }

    private void noColumnWithoutTheSecond() {
        for (int c = 10; c <= 15; c++) {
            each(NO_COLUMN, "SELECT c" + c + " FROM t1", "SELECT SUM c" + c + " FROM t1",
                    "SELECT ALL FROM t1 WHERE c" + c + " IS 1", "DELETE t1 WHERE 1 BELOW c" + c);
        }
    }

    private void arityOfCreate() {
        for (int n : new int[] {Integer.MIN_VALUE, -1, 0, 7, 10, Integer.MAX_VALUE}) {
            each(ARITY, "CREATE t2 " + n);
        }
        for (int n = 1; n <= 6; n++) {
            each(0, "CREATE t2 " + n);
        }
    }

    private void arityOfInsert() {
        for (int n = 1; n <= 6; n++) {
            Talk talk = new Talk(check, "CREATE t0 " + n);
            for (int numbers = 1; numbers <= 8; numbers++) {
                talk.prepared("INSERT t0" + " 1".repeat(numbers), numbers == n ? 0 : ARITY);
            }
            talk.prepared("INSERT t0" + " 1".repeat(58), ARITY);
        }
    }
}
