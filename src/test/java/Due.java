/** Compares answers with those that are due, and tells those that are not. */
final class Due {
    private final String test;
    private int right = 0;
    private int wrong = 0;

    Due(String test) {
        this.test = test;
    }

    void is(String call, long got, long want) {
        if (got == want) {
            right++;
            return;
        }
        wrong++;
        if (wrong <= 40) {
            System.out.println(test + ": " + call + " answered " + got + ", due is " + want);
        }
    }

    void holds(String claim, boolean so) {
        is(claim, so ? 1 : 0, 1);
    }

    int wrong() {
        return wrong;
    }

    /** The last call of a test. */
    void end() {
        System.out.println(test + ": " + right + " answers are as due, " + wrong + " are not");
        if (wrong != 0 || right == 0) {
            System.exit(1);
        }
    }
}
