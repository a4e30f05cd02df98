import java.util.Random;

/** Runs of 512 calls, made by a fixed seed, on the program and on the model: the answers are the same. */
final class ModelTest {
    private static final int RUNS = 1000;
    private static final int CALLS = 512;
    private static final int[] NUMBERS = {Integer.MIN_VALUE, -2, -1, 0, 1, 2, 3, 4, 5, 6, 7, 8, Integer.MAX_VALUE};

    private final Random random;
    private final CursorBase base = new CursorBase();
    private final Model model = new Model();
    private final StringBuilder told = new StringBuilder();
    /** Few tables and columns in some runs, so that statements are often right and rows many. */
    private final int tables;
    private final int columns;
    private int calls;
    private boolean differs;

    private ModelTest(int seed) {
        random = new Random(seed);
        tables = 1 + random.nextInt(3);
        columns = 1 + random.nextInt(6);
    }

    public static void main(String[] args) {
        Check check = new Check();
        for (int seed = 0; seed < RUNS; seed++) {
            ModelTest test = new ModelTest(seed);
            test.run();
            check.same("run " + seed + (test.differs ? ":" + test.told : "") + " differs", test.differs ? 1 : 0, 0);
            if (test.differs) {
                break;
            }
        }
        check.end();
    }

    private void run() {
        for (int t = 0; t < tables && random.nextInt(8) > 0; t++) {
            say("CREATE t" + t + " " + columns);
            call("step", 0, 0, false);
        }
        while (calls < CALLS && !differs) {
            int choice = random.nextInt(40);
            if (choice < 10) {
                say(statement());
                stepSome();
            } else if (choice < 36) {
                say("INSERT " + table() + numbers(random.nextInt(20) == 0 ? 1 + random.nextInt(7) : columns));
                stepSome();
            } else {
                askOne();
            }
        }
    }

    private void stepSome() {
        int steps = random.nextInt(8) == 0 ? random.nextInt(12) : 1 + random.nextInt(4);
        for (int i = 0; i < steps; i++) {
            call("step", 0, 0, false);
            for (int j = random.nextInt(4) - 2; j >= 0; j--) {
                call("column", random.nextInt(columns + 2) - 1, 0, false);
            }
        }
        if (random.nextInt(5) == 0) {
            call("width", 0, 0, false);
            call("reset", 0, 0, false);
            call("step", 0, 0, false);
            call("column", 0, 0, false);
        }
    }

    private void askOne() {
        int table = random.nextInt(tables + 1) - random.nextInt(2) + random.nextInt(12) / 11 * 9;
        switch (random.nextInt(9)) {
            case 0:
                call("rows", table, 0, false);
                break;
            case 1:
                call("all", 0, 0, false);
                break;
            case 2:
            case 3:
                call("nearest", table, number(), random.nextBoolean());
                break;
            case 4:
                call(random.nextInt(12) == 0 ? "clear" : "prepare", 0, 0, false);
                break;
            case 5:
                call("feed", random.nextInt(6) - 1, random.nextInt(20) - 2, false);
                break;
            case 6:
                call("step", 0, 0, false);
                break;
            case 7:
                call("width", 0, 0, false);
                break;
            default:
                call("reset", 0, 0, false);
                break;
        }
    }

    private int number() {
        return random.nextInt(3) == 0 ? NUMBERS[random.nextInt(NUMBERS.length)] : random.nextInt(40) - 10;
    }

    private String numbers(int count) {
        StringBuilder text = new StringBuilder();
        for (int i = 0; i < count; i++) {
            text.append(' ').append(number());
        }
        return text.toString();
    }

    private String table() {
        return "t" + (random.nextInt(30) == 0 ? random.nextInt(10) : random.nextInt(tables));
    }

    private String column(boolean two) {
        int most = random.nextInt(40) == 0 ? 6 : columns;
        boolean ofSecond = two ? random.nextBoolean() : random.nextInt(60) == 0;
        return "c" + (random.nextInt(most) + (ofSecond ? 10 : 0));
    }

    private String operand(boolean two) {
        return random.nextInt(3) == 0 ? "" + number() : column(two);
    }

    private String conditions(boolean two) {
        int count = random.nextInt(3) > 0 ? random.nextInt(3) : random.nextInt(30) == 0 ? 8 + random.nextInt(2) : 1;
        StringBuilder text = new StringBuilder();
        for (int i = 0; i < count; i++) {
            text.append(i == 0 ? " WHERE " : " AND ").append(operand(two)).append(' ')
                    .append(Talk.WORDS.get(10 + random.nextInt(3))).append(' ').append(operand(two));
        }
        return text.toString();
    }

    private String list(boolean two) {
        switch (random.nextInt(4)) {
            case 0:
                return " ALL";
            case 1:
                return " COUNT";
            case 2:
                return " SUM " + column(two);
            default:
                StringBuilder text = new StringBuilder();
                int count = random.nextInt(12) == 0 ? 8 + random.nextInt(2) : 1 + random.nextInt(3);
                for (int i = 0; i < count; i++) {
                    text.append(' ').append(column(two));
                }
                return text.toString();
        }
    }

    private String statement() {
        int choice = random.nextInt(12);
        if (choice == 0) {
            return "CREATE t" + random.nextInt(10) + " " + (random.nextInt(8) == 0 ? number() : columns);
        }
        if (choice < 3) {
            return "DELETE " + table() + (random.nextInt(3) > 0 ? " WHERE c0 IS " + number() : conditions(false));
        }
        boolean two = random.nextBoolean();
        return "SELECT" + list(two) + " FROM " + table() + (two ? " " + table() : "") + conditions(two)
                + (random.nextInt(3) == 0 ? " FALLING" : "");
    }

    /** Feeds a statement, now and then with a token left out, doubled or changed, and prepares it. */
    private void say(String statement) {
        int spoiled = random.nextInt(10) == 0 ? random.nextInt(8) : -1;
        String[] tokens = statement.split(" ");
        for (int i = 0; i < tokens.length; i++) {
            int times = i == spoiled ? random.nextInt(3) : 1;
            for (int j = 0; j < times; j++) {
                feed(tokens[i]);
            }
            if (i == spoiled && times == 1) {
                call("feed", random.nextInt(4), random.nextInt(14), false);
            }
        }
        call("prepare", 0, 0, false);
    }

    private void feed(String token) {
        int[] pair = Talk.tokenOf(token);
        call("feed", pair[0], pair[1], false);
    }

    private void call(String name, int a, int b, boolean up) {
        if (calls >= CALLS || differs) {
            return;
        }
        calls++;
        String due = answer(() -> onModel(name, a, b, up));
        String got = answer(() -> onBase(name, a, b, up));
        told.append("\n  ").append(name).append(' ').append(a).append(' ').append(b).append(' ').append(up)
                .append(": ").append(got).append(", due is ").append(due);
        differs = !got.equals(due);
    }

    private static String answer(Check.Call call) {
        try {
            return Long.toString(call.make());
        } catch (RuntimeException e) {
            return e.getClass().getSimpleName();
        }
    }

    private long onBase(String name, int a, int b, boolean up) {
        switch (name) {
            case "feed":
                return base.feed(a, b);
            case "prepare":
                return base.prepare();
            case "step":
                return base.step();
            case "reset":
                return base.reset();
            case "width":
                return base.width();
            case "column":
                return base.column(a);
            case "rows":
                return base.rows(a);
            case "all":
                return base.all();
            case "nearest":
                return base.nearest(a, b, up);
            default:
                base.clear();
                return 0;
        }
    }

    private long onModel(String name, int a, int b, boolean up) {
        switch (name) {
            case "feed":
                return model.feed(a, b);
            case "prepare":
                return model.prepare();
            case "step":
                return model.step();
            case "reset":
                return model.reset();
            case "width":
                return model.width();
            case "column":
                return model.column(a);
            case "rows":
                return model.rows(a);
            case "all":
                return model.all();
            case "nearest":
                return model.nearest(a, b, up);
            default:
                model.clear();
                return 0;
        }
    }
}
