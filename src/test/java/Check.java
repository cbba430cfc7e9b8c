/** Compares answers with those that are due, prints what differs, and ends the test. */
final class Check {
    /** A call that may throw. */
    interface Call {
        void run();
    }

    private int checks = 0;
    private int wrong = 0;

    void due(String what, long got, long want) {
        checks++;
        if (got != want) {
            wrong++;
            System.out.println(what + " answered " + got + ", due is " + want);
        }
    }

    void yes(String what, boolean got) {
        due(what, got ? 1 : 0, 1);
    }

    void no(String what, boolean got) {
        due(what, got ? 1 : 0, 0);
    }

    void throwsState(String what, Call call) {
        throwsExactly(what, IllegalStateException.class, call);
    }

    void throwsArgument(String what, Call call) {
        throwsExactly(what, IllegalArgumentException.class, call);
    }

    private void throwsExactly(String what, Class<?> kind, Call call) {
        Class<?> thrown = null;
        try {
            call.run();
        } catch (RuntimeException e) {
            thrown = e.getClass();
        }
        yes(what + " throws " + kind.getSimpleName() + ", not " + thrown, thrown == kind);
    }

    /** Exit code 1 when an answer was wrong, or when nothing was checked. */
    void end(String test) {
        System.out.println(test + ": " + checks + " checks, " + wrong + " wrong");
        if (wrong != 0 || checks == 0) {
            System.exit(1);
        }
    }
}
