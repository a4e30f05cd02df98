/** Counts answers that are not as due, and ends a test. */
final class Check {
    interface Call {
        long make();
    }

    private String sentence = "";
    private int wrong;

    /** A sentence of the document with the tests that are its own; one that breaks off counts as wrong. */
    void sentence(String words, Runnable... tests) {
        sentence = "[" + words + "] ";
        for (Runnable test : tests) {
            try {
                test.run();
            } catch (RuntimeException e) {
                tell("broke off by " + e);
            }
        }
        sentence = "";
    }

    void same(String what, long got, long want) {
        if (got != want) {
            tell(what + " answered " + got + ", due is " + want);
        }
    }

    void throwsArgument(String what, Call call) {
        thrown(what, call, IllegalArgumentException.class);
    }

    void throwsState(String what, Call call) {
        thrown(what, call, IllegalStateException.class);
    }

    void throwsIndex(String what, Call call) {
        thrown(what, call, IndexOutOfBoundsException.class);
    }

    private void thrown(String what, Call call, Class<? extends RuntimeException> due) {
        String got;
        try {
            got = "answered " + call.make();
        } catch (RuntimeException e) {
            if (e.getClass() == due) {
                return;
            }
            got = "threw " + e.getClass().getSimpleName();
        }
        tell(what + " " + got + ", due is " + due.getSimpleName());
    }

    private void tell(String what) {
        wrong++;
        System.out.println(sentence + what);
    }

    void end() {
        System.out.println(wrong == 0 ? "all answers are as due" : wrong + " answers are not as due");
        if (wrong != 0) {
            System.exit(1);
        }
    }
}
