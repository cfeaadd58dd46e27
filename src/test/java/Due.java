/** Counts and prints the answers that are not as due. */
final class Due {
    private static final long LONGEST_SECONDS = 300;
    private static int wrong = 0;
    private static String about = "";

    static {
        Thread watch = new Thread(Due::endWhenTooLong);
        watch.setDaemon(true);
        watch.start();
    }

    private Due() {
    }

    /** A call that does not end is a fault, too, and must not hold up the other tests for ever. */
    private static void endWhenTooLong() {
        try {
            Thread.sleep(1000 * LONGEST_SECONDS);
        } catch (InterruptedException e) {
            return;
        }
        System.out.println(about + ": not at its end behind " + LONGEST_SECONDS + " seconds");
        Runtime.getRuntime().halt(1);
    }

    static void about(String what) {
        about = what;
    }

    static void due(String call, long got, long want) {
        if (got != want) {
            tell(call, Long.toString(got), Long.toString(want));
        }
    }

    /** Several items' answers to one question, as one row. */
    static void dueAll(String call, String got, String want) {
        if (!got.equals(want)) {
            tell(call, got, want);
        }
    }

    private static void tell(String call, String got, String want) {
        wrong++;
        System.out.println(testName() + about + ": " + call + " answered " + got + ", due is " + want);
    }

    /** The function that Sentences was given, if there is one. */
    private static String testName() {
        StackTraceElement[] open = new Throwable().getStackTrace();
        for (int i = 1; i < open.length; i++) {
            if (open[i].getClassName().equals("Sentences") && !open[i - 1].getClassName().equals("Due")) {
                return open[i - 1].getClassName() + "." + open[i - 1].getMethodName() + ": ";
            }
        }
        return "";
    }

    static void end() {
        if (wrong != 0) {
            System.out.println(wrong + " answers are not as due");
            System.exit(1);
        }
        System.out.println("all answers are as due");
    }
}
