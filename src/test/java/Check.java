import java.util.Objects;
import java.util.function.Consumer;

/** Counts the answers that are not as due, and tells each of them. */
final class Check {
    interface Call {
        Object answer();
    }

    interface Test {
        void run();
    }

    private int wrong;
    private String about = "";

    /** Runs the test of one sentence of the document; each wrong answer is told along with the sentence. */
    void sentence(String place, String sentence, Test test) {
        about = place + ", \"" + sentence + "\": ";
        try {
            test.run();
        } catch (RuntimeException e) {
            due("the test", "no exception", e);
        }
        about = "";
    }

    void due(String what, Object due, Object got) {
        if (!Objects.equals(due, got)) {
            wrong++;
            System.out.println(about + what + " answered " + got + ", due is " + due);
        }
    }

    /** The exception must be of the very class, not of one below it. */
    void dueThrow(String what, Class<? extends RuntimeException> due, Call call) {
        due(what, "throws " + due.getSimpleName(), outcome(call));
    }

    /** Makes the same object twice, lets one of them throw, and looks for a difference between the two. */
    void dueThrowWithoutChange(String what, Class<? extends RuntimeException> due,
            Consumer<Swapyard> build, Consumer<Swapyard> call) {
        Swapyard untouched = new Swapyard();
        build.accept(untouched);
        Swapyard yard = new Swapyard();
        build.accept(yard);
        dueThrow(what, due, () -> {
            call.accept(yard);
            return "nothing";
        });
        due("all answers after " + what, Snapshot.of(untouched), Snapshot.of(yard));
    }

    /** An exception that the Java machine or its library throws is told as such, for no call may end so. */
    static String outcome(Call call) {
        try {
            return String.valueOf(call.answer());
        } catch (RuntimeException e) {
            return (isThrownByCode(e) ? "throws " : "the machine throws ") + e.getClass().getSimpleName();
        }
    }

    private static boolean isThrownByCode(RuntimeException e) {
        StackTraceElement[] trace = e.getStackTrace();
        if (trace.length == 0) {
            return false;
        }
        String thrower = trace[0].getClassName();
        // The trace of a machine's exception can begin in the class as well, so its kind tells it.
        boolean machine = e instanceof ArrayIndexOutOfBoundsException || e instanceof NullPointerException
                || e instanceof ClassCastException || e instanceof NegativeArraySizeException
                || e instanceof ArrayStoreException || "/ by zero".equals(e.getMessage());
        return !machine && (thrower.startsWith("Swapyard") || thrower.equals("Model"));
    }

    void end() {
        if (wrong > 0) {
            System.out.println(wrong + " answers are not as due");
            System.exit(1);
        }
    }
}
