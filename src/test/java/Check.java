/** Counts answers that are not as due, and ends a test. */
final class Check {
    interface Call {
        long make();
    }

    private int wrong;

    void same(String what, long got, long want) {
        if (got != want) {
            wrong++;
            System.out.println(what + " answered " + got + ", due is " + want);
        }
    }

    void throwsArgument(String what, Call call) {
        thrown(what, call, IllegalArgumentException.class);
    }

    void throwsState(String what, Call call) {
        thrown(what, call, IllegalStateException.class);
    }

    void throwsIndex(String what, Call call) {
        thrown(what, call, IndexOutOfBoundsException.class);
    }

    private void thrown(String what, Call call, Class<? extends RuntimeException> due) {
        String got;
        try {
            got = "answered " + call.make();
        } catch (RuntimeException e) {
            if (e.getClass() == due) {
                return;
            }
            got = "threw " + e.getClass().getSimpleName();
        }
        wrong++;
        System.out.println(what + " " + got + ", due is " + due.getSimpleName());
    }

    void end() {
        System.out.println(wrong == 0 ? "all answers are as due" : wrong + " answers are not as due");
        if (wrong != 0) {
            System.exit(1);
        }
    }
}
