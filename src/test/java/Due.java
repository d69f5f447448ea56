/** Counts the answers that are as due, and tells those that are not. */
final class Due {
    private final String what;
    private int passed;
    private int failed;

    Due(String what) {
        this.what = what;
    }

    void equal(String call, long got, long want) {
        if (got == want) {
            passed++;
            return;
        }
        failed++;
        System.out.println(what + ": " + call + " answered " + got + ", due is " + want);
    }

    void holds(String claim, boolean true_) {
        equal(claim, true_ ? 1 : 0, 1);
    }

    /** Says the outcome, and ends the program with exit code 1 if an answer was wrong. */
    void close() {
        System.out.println(what + ": " + passed + " answers as due, " + failed + " not");
        if (failed > 0) {
            System.exit(1);
        }
    }
}
