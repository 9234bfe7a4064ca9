/** Compares answers with those that are due, and tells of each that is not. */
final class Checks {
    private static final int TOLD_AT_MOST = 40;
    /** Far more than any test needs. */
    private static final long MOST_MILLISECONDS = 120_000;

    private int wrong = 0;
    private int made = 0;

    Checks() {
        watch();
    }

    void due(String call, long got, long want) {
        made++;
        if (got == want) {
            return;
        }
        wrong++;
        if (wrong <= TOLD_AT_MOST) {
            System.out.println(call + " answered " + got + ", due is " + want);
        }
    }

    /** A test that checked nothing has not passed. */
    void end(String test) {
        System.out.println(test + ": " + made + " answers, " + wrong + " wrong");
        if (wrong != 0 || made == 0) {
            System.exit(1);
        }
    }

    /** A call that does not end fails its test, and does not hold up the others. */
    private void watch() {
        Thread watcher = new Thread(() -> {
            try {
                Thread.sleep(MOST_MILLISECONDS);
            } catch (InterruptedException ended) {
                return;
            }
            System.out.println("a call has not ended, after " + made + " answers");
            Runtime.getRuntime().halt(1);
        });
        watcher.setDaemon(true);
        watcher.start();
    }
}
