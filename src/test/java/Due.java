/** Counts the answers of one test, and prints each that is not the one that is due. */
final class Due {
    private final String test;
    private int right;
    private int wrong;

    Due(String test) {
        this.test = test;
    }

    void is(String call, long got, long want) {
        if (got == want) {
            right++;
            return;
        }
        wrong++;
        System.out.println(test + ": " + call + " answered " + got + ", due is " + want);
    }

    void holds(String what, boolean truth) {
        is(what, truth ? 1 : 0, 1);
    }

    int wrong() {
        return wrong;
    }

    /** Ends the test: a test that looked at nothing has failed too. */
    void end() {
        System.out.println(test + ": " + right + " as due, " + wrong + " not");
        if (wrong != 0 || right == 0) {
            System.exit(1);
        }
    }
}
