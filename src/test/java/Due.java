/** Compares answers with those that are due, prints the wrong ones, and ends a test by its exit code. */
final class Due {
    private static final int MOST_PRINTED = 20;

    private final String test;
    private int seen;
    private int wrong;

    Due(String test) {
        this.test = test;
    }

    void is(String what, long got, long want) {
        seen++;
        if (got == want) {
            return;
        }
        wrong++;
        if (wrong <= MOST_PRINTED) {
            System.out.println(test + ": " + what + " answered " + got + ", due is " + want);
        }
    }

    void isTrue(String what, boolean got) {
        is(what, got ? 1 : 0, 1);
    }

    void isFalse(String what, boolean got) {
        is(what, got ? 1 : 0, 0);
    }

    void end() {
        System.out.println(test + ": " + seen + " answers, " + wrong + " wrong");
        if (wrong != 0 || seen == 0) {
            System.exit(1);
        }
    }
}
