/** Compares answers with those that are due, and tells of each that is not. */
final class Checks {
    private static final int TOLD_AT_MOST = 40;

    private int wrong = 0;
    private int made = 0;

    void due(String call, long got, long want) {
        made++;
        if (got == want) {
            return;
        }
        wrong++;
        if (wrong <= TOLD_AT_MOST) {
            System.out.println(call + " answered " + got + ", due is " + want);
        }
    }

    /** A test that checked nothing has not passed. */
    void end(String test) {
        System.out.println(test + ": " + made + " answers, " + wrong + " wrong");
        if (wrong != 0 || made == 0) {
            System.exit(1);
        }
    }
}
