/** Counts and prints the answers that are not the ones that are due. */
final class Check {
    private final String test;
    private int asked = 0;
    private int wrong = 0;

    Check(String test) {
        this.test = test;
    }

    void due(String call, long got, long want) {
        asked++;
        if (got != want) {
            wrong++;
            System.out.println(test + ": " + call + " answered " + got + ", due is " + want);
        }
    }

    void due(String call, boolean got, boolean want) {
        due(call, got ? 1 : 0, want ? 1 : 0);
    }

    /** The exception's class, if the program threw it itself; what the machine or the library threw is told apart. */
    static String nameOf(RuntimeException e) {
        StackTraceElement[] trace = e.getStackTrace();
        boolean own = trace.length > 0 && trace[0].getClassName().startsWith("CloudPaths");
        return e.getClass().getSimpleName() + (own ? "" : " of the machine");
    }

    /** Exactly this class is due: the machine's own exceptions are classes below the documented ones. */
    void refused(String call, Class<? extends RuntimeException> want, Runnable run) {
        asked++;
        String got = "nothing";
        try {
            run.run();
        } catch (RuntimeException e) {
            got = nameOf(e);
        }
        if (!got.equals(want.getSimpleName())) {
            wrong++;
            System.out.println(test + ": " + call + " threw " + got + ", due is " + want.getSimpleName());
        }
    }

    void outOfBounds(String call, Runnable run) {
        refused(call, IndexOutOfBoundsException.class, run);
    }

    void badArgument(String call, Runnable run) {
        refused(call, IllegalArgumentException.class, run);
    }

    void badState(String call, Runnable run) {
        refused(call, IllegalStateException.class, run);
    }

    void end() {
        System.out.println(test + ": " + asked + " answers, " + wrong + " not as due");
        if (wrong != 0 || asked == 0) {
            System.exit(1);
        }
    }
}
