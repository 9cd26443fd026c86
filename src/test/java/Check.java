import java.util.function.Supplier;

/** Counts and prints answers that are not the due ones. */
final class Check {
    static final String ARGUMENT = "IllegalArgumentException";
    static final String STATE = "IllegalStateException";
    private static int wrong;
    private static int promise;

    private Check() {
    }

    static void promise(int number) {
        promise = number;
    }

    static void due(String what, long want, long got) {
        if (got != want) {
            say(what + " answered " + got + ", due is " + want);
        }
    }

    static void due(String what, boolean want, boolean got) {
        due(what, want ? 1 : 0, got ? 1 : 0);
    }

    /** The call throws just this exception. */
    static void thrown(String what, String want, Supplier<Object> call) {
        try {
            say(what + " answered " + call.get() + ", due is " + want);
        } catch (RuntimeException e) {
            if (!e.getClass().getSimpleName().equals(want)) {
                say(what + " threw " + e + ", due is " + want);
            }
        }
    }

    static void say(String text) {
        wrong++;
        System.out.println("promise " + promise + ": " + text);
    }

    static void end() {
        System.out.println(wrong == 0 ? "all answers are as due" : wrong + " answers are not as due");
        System.exit(wrong == 0 ? 0 : 1);
    }
}
