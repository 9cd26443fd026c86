import java.util.ArrayList;
import java.util.List;
import java.util.function.Function;
import java.util.function.Supplier;

/**
 * All that an object answers, as texts. Every object is made anew by its scene and asked a part of the questions only,
 * since nothing is promised after its 512th call.
 */
final class Picture {
    private static final int AT_ONCE = 240;
    private static final int TICKETS = 20;
    private static final List<String> NAMES = new ArrayList<>();
    private static final List<Function<PlugTree, Object>> QUESTIONS = new ArrayList<>();

    static {
        for (int i = 0; i < 8; i++) {
            int b = i;
            question("opening(" + b + ", false)", x -> x.opening(b, false));
            question("opening(" + b + ", true)", x -> x.opening(b, true));
            question("power(" + b + ")", x -> x.power(b));
            for (int j = 0; j < 4; j++) {
                int s = j;
                question("slot(" + b + ", " + s + ")", x -> x.slot(b, s));
            }
        }
        for (int i = 0; i < 40; i++) {
            int c = i;
            for (int j = 0; j < 4; j++) {
                int what = j;
                question("card(" + c + ", " + what + ")", x -> x.card(c, what));
            }
            for (int j = 0; j < 3; j++) {
                int k = j;
                question("range(" + c + ", " + k + ")", x -> x.range(c, k));
            }
        }
        for (int i = 0; i < TICKETS; i++) {
            int t = i;
            question("result(" + t + ")", x -> x.result(t));
        }
        for (int i = 0; i < 4096; i += 64) {
            int a = i;
            question("decode(" + a + ")", x -> x.decode(a));
        }
        question("moved()", PlugTree::moved);
    }

    private Picture() {
    }

    private static void question(String name, Function<PlugTree, Object> question) {
        NAMES.add(name);
        QUESTIONS.add(question);
    }

    static String answer(PlugTree x, Function<PlugTree, Object> call) {
        try {
            return String.valueOf(call.apply(x));
        } catch (RuntimeException e) {
            return e.getClass().getSimpleName();
        }
    }

    /** What all questions answer after the scene. */
    static List<String> now(Supplier<PlugTree> scene) {
        List<String> answers = new ArrayList<>();
        PlugTree x = scene.get();
        for (int i = 0; i < QUESTIONS.size(); i++) {
            if (i % AT_ONCE == AT_ONCE - 1) {
                x = scene.get();
            }
            answers.add(NAMES.get(i) + " answered " + answer(x, QUESTIONS.get(i)));
        }
        return answers;
    }

    /** What comes of the scene later: a row of calls that bring to light what no question tells, and all questions. */
    static List<String> later(Supplier<PlugTree> scene) {
        List<String> answers = goOn(scene.get());
        answers.addAll(now(() -> {
            PlugTree x = scene.get();
            goOn(x);
            return x;
        }));
        return answers;
    }

    private static List<String> goOn(PlugTree x) {
        List<String> answers = new ArrayList<>();
        answers.add("step() answered " + x.step());
        for (int i = 0; i < 3; i++) {
            workAll(x, answers);
        }
        answers.add("settle() answered " + x.settle());
        for (int i = 0; i < 6; i++) {
            int c = i;
            answers.add("request(" + c + ", 1, 3) answered " + answer(x, y -> y.request(c, 1, 3)));
        }
        workAll(x, answers);
        answers.add("a type answered " + answer(x, y -> y.type(0, -1, -1, 0, true)));
        for (int i = 0; i < 32; i += 3) {
            int b = i / 4;
            int s = i % 4;
            answers.add("bridge(" + b + ", " + s + ", 7) answered " + answer(x, y -> y.bridge(b, s, 7)));
        }
        for (int i = 0; i < 32; i++) {
            int b = i / 4;
            int s = i % 4;
            answers.add("plug(" + b + ", " + s + ", 0) answered " + answer(x, y -> y.plug(b, s, 0)));
            answers.add("settle() answered " + x.settle());
        }
        return answers;
    }

    private static void workAll(PlugTree x, List<String> answers) {
        for (int i = 0; i < 6; i++) {
            int c = i;
            answers.add("work(" + c + ") answered " + answer(x, y -> y.work(c)));
        }
    }
}
