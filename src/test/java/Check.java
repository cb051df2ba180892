import java.util.List;
import java.util.function.Consumer;
import java.util.function.Supplier;

/** Counts and prints the answers that are not the ones that are due. */
final class Check {
    private final String test;
    private int asked = 0;
    private int wrong = 0;

    Check(String test) {
        this.test = test;
    }

    void due(String call, long got, long want) {
        asked++;
        if (got != want) {
            wrong++;
            System.out.println(test + ": " + call + " answered " + got + ", due is " + want);
        }
    }

    void due(String call, boolean got, boolean want) {
        due(call, got ? 1 : 0, want ? 1 : 0);
    }

    /** The exception's class, if the program threw it itself; what the machine or the library threw is told apart. */
    static String nameOf(RuntimeException e) {
        StackTraceElement[] trace = e.getStackTrace();
        boolean own = trace.length > 0 && trace[0].getClassName().startsWith("CloudPaths");
        return e.getClass().getSimpleName() + (own ? "" : " of the machine");
    }

    /** Exactly this class is due: the machine's own exceptions are classes below the documented ones. */
    private void refused(String call, String want, Runnable run) {
        asked++;
        String got = "nothing";
        try {
            run.run();
        } catch (RuntimeException e) {
            got = nameOf(e);
        }
        if (!got.equals(want)) {
            wrong++;
            System.out.println(test + ": " + call + " threw " + got + ", due is " + want);
        }
    }

    /** The call is refused, and its cloud then answers what one of the same making answers that did not hear it. */
    private void refused(String call, String want, Supplier<CloudPaths> cloud, Consumer<CloudPaths> run) {
        for (boolean backwards : new boolean[] {false, true}) {
            CloudPaths x = cloud.get();
            refused(call, want, () -> run.accept(x));
            same("after " + call, Answers.of(x, backwards), Answers.of(cloud.get(), backwards));
        }
    }

    void outOfBounds(String call, Supplier<CloudPaths> cloud, Consumer<CloudPaths> run) {
        refused(call, "IndexOutOfBoundsException", cloud, run);
    }

    void badArgument(String call, Supplier<CloudPaths> cloud, Consumer<CloudPaths> run) {
        refused(call, "IllegalArgumentException", cloud, run);
    }

    void badState(String call, Supplier<CloudPaths> cloud, Consumer<CloudPaths> run) {
        refused(call, "IllegalStateException", cloud, run);
    }

    void outOfBounds(String call, Runnable run) {
        refused(call, "IndexOutOfBoundsException", run);
    }

    void badArgument(String call, Runnable run) {
        refused(call, "IllegalArgumentException", run);
    }

    void badState(String call, Runnable run) {
        refused(call, "IllegalStateException", run);
    }

    void same(String what, List<String> got, List<String> want) {
        asked++;
        for (int i = 0; i < Math.max(got.size(), want.size()); i++) {
            String one = i < got.size() ? got.get(i) : "nothing";
            String other = i < want.size() ? want.get(i) : "nothing";
            if (!one.equals(other)) {
                wrong++;
                System.out.println(test + ": " + what + ": " + one + ", due is: " + other);
                return;
            }
        }
    }

    void end() {
        System.out.println(test + ": " + asked + " answers, " + wrong + " not as due");
        if (wrong != 0 || asked == 0) {
            System.exit(1);
        }
    }
}
