import java.util.List;
import java.util.function.Function;
import java.util.function.Supplier;

/** Counts and prints answers that are not the due ones. */
final class Check {
    static final String ARGUMENT = "IllegalArgumentException";
    static final String STATE = "IllegalStateException";
    private static int wrong;
    private static String place = "";

    private Check() {
    }

    static void promise(int number) {
        place = "promise " + number;
    }

    /** The sentence of the document that the next checks hold the class to. */
    static void sentence(String words) {
        place = '"' + words + '"';
    }

    static void due(String what, long want, long got) {
        if (got != want) {
            say(what + " answered " + got + ", due is " + want);
        }
    }

    static void due(String what, boolean want, boolean got) {
        due(what, want ? 1 : 0, got ? 1 : 0);
    }

    /** The call throws just this exception. */
    static void thrown(String what, String want, Supplier<Object> call) {
        try {
            say(what + " answered " + call.get() + ", due is " + want);
        } catch (RuntimeException e) {
            if (!e.getClass().getSimpleName().equals(want)) {
                say(what + " threw " + e + ", due is " + want);
            }
        }
    }

    /** After the scene the call throws just this exception, and nothing that can be asked then or later has changed. */
    static void refused(String what, String want, Supplier<PlugTree> scene, Function<PlugTree, Object> call) {
        Supplier<PlugTree> refusing = () -> {
            PlugTree x = scene.get();
            Picture.answer(x, call);
            return x;
        };
        PlugTree x = scene.get();
        thrown(what, want, () -> call.apply(x));
        same(what + ", then", Picture.now(scene), Picture.now(refusing));
        same(what + ", later", Picture.later(scene), Picture.later(refusing));
    }

    private static void same(String what, List<String> want, List<String> got) {
        for (int i = 0; i < want.size(); i++) {
            if (!want.get(i).equals(got.get(i))) {
                say(what + ": " + got.get(i) + ", due is " + want.get(i));
                return;
            }
        }
    }

    static void say(String text) {
        wrong++;
        System.out.println(place + ": " + text);
    }

    static void end() {
        System.out.println(wrong == 0 ? "all answers are as due" : wrong + " answers are not as due");
        System.exit(wrong == 0 ? 0 : 1);
    }
}
