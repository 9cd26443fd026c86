import java.util.ArrayList;
import java.util.Arrays;
import java.util.Collections;
import java.util.List;
import java.util.Random;
import java.util.function.Function;

/**
 * Long random runs, always the same ones: every call answers as PlainTree does, and again and again all that can be
 * asked does, on an object to which the run up to there has been played anew, so that none has more than 512 calls.
 */
public final class RandomRunsTest {
    private static final int RUNS = 600;
    private static final int CALLS = 200;
    private static final int MOST_CALLS = 512;
    private static final int BETWEEN_QUESTIONS = 3;
    private static int wrong;
    private final Random random;
    private final PlugTree tree = new PlugTree();
    private final PlainTree plain = new PlainTree();
    private final List<String> calls = new ArrayList<>();
    private final List<Function<PlugTree, Number>> played = new ArrayList<>();
    private final int least;
    private final int most;
    private final int power;
    private final int pausing;
    private final int eagerness;

    private RandomRunsTest(int seed) {
        random = new Random(seed);
        boolean crowded = random.nextInt(3) == 0;
        least = crowded ? 7 : random.nextInt(9) - 1;
        most = crowded ? 10 : least + random.nextInt(11 - least);
        power = crowded ? 10 : new int[] {0, 20, 100, 1000}[random.nextInt(4)];
        pausing = random.nextInt(5) == 0 ? 50 : random.nextInt(3) == 0 ? 90 : 100;
        eagerness = 5 + random.nextInt(40);
    }

    public static void main(String[] args) {
        int[] seen = new int[10];
        for (int seed = 0; seed < RUNS && wrong < 10; seed++) {
            RandomRunsTest run = new RandomRunsTest(seed);
            run.play(seed);
            PlainTree p = run.plain;
            int[] these = {p.fitted, p.grown, p.opened, p.refusedPower, p.refusedNeighbour, p.refusedRoom, p.paused,
                p.movedAll, p.waitedForRequest, p.unpaused};
            for (int i = 0; i < seen.length; i++) {
                seen[i] += these[i];
            }
        }
        for (int i = 0; i < seen.length; i++) {
            if (seen[i] < 100) {
                wrong++;
                System.out.println("kind " + i + " of event came only " + seen[i] + " times");
            }
        }
        System.out.println(wrong == 0 ? "random runs agree: " + Arrays.toString(seen) : wrong + " wrong");
        System.exit(wrong == 0 ? 0 : 1);
    }

    private void play(int seed) {
        for (int i = 0; i < CALLS; i++) {
            String difference = playOne();
            if (difference == null && i % BETWEEN_QUESTIONS == 0) {
                difference = compareAll();
            }
            if (difference == null) {
                difference = plain.broken();
            }
            if (difference != null) {
                wrong++;
                System.out.println("run " + seed + ": " + difference + " after " + calls);
                return;
            }
        }
    }

    private String playOne() {
        int pick = random.nextInt(100);
        if (calls.size() < 12 && pick < 70) {
            return pick < 35 ? addBridge() : addType();
        }
        if (pick < 2) {
            return addBridge();
        }
        if (pick < 5) {
            return addType();
        }
        if (pick < 5 + eagerness) {
            int b = near(plain.bridgeCount());
            int s = near(4);
            int t = near(16);
            return both("plug(" + b + ", " + s + ", " + t + ")", x -> x.plug(b, s, t), x -> x.plug(b, s, t));
        }
        if (pick < 20 + eagerness) {
            return random.nextInt(4) == 0 ? both("settle()", PlugTree::settle, PlainTree::settle)
                : both("step()", x -> x.step() ? 1 : 0, x -> x.step() ? 1 : 0);
        }
        int c = nearCard();
        if (pick < 25 + eagerness) {
            return both("pull(" + c + ")", x -> x.pull(c), x -> x.pull(c));
        }
        if (pick < 28 + eagerness) {
            return both("leave(" + c + ")", x -> x.leave(c), x -> x.leave(c));
        }
        if (random.nextInt(3) == 0) {
            int op = random.nextInt(20) == 0 ? random.nextInt() : random.nextInt(12);
            int word = random.nextInt(3) == 0 ? random.nextInt() : random.nextInt(5);
            return both("request(" + c + ", " + op + ", " + word + ")", x -> x.request(c, op, word),
                x -> x.request(c, op, word));
        }
        return both("work(" + c + ")", x -> x.work(c) ? 1 : 0, x -> x.work(c) ? 1 : 0);
    }

    private String addBridge() {
        int parent = near(plain.bridgeCount());
        int slot = near(4);
        int limit = random.nextInt(3) == 0 ? near(1001) : 1000;
        return both("bridge(" + parent + ", " + slot + ", " + limit + ")", x -> x.bridge(parent, slot, limit),
            x -> x.bridge(parent, slot, limit));
    }

    private String addType() {
        int first = exponent();
        int second = exponent();
        int third = exponent();
        int p = random.nextInt(30) == 0 ? near(1001) : random.nextInt(power + 1);
        boolean pauses = random.nextInt(100) < pausing;
        return both("type(" + first + ", " + second + ", " + third + ", " + p + ", " + pauses + ")",
            x -> x.type(first, second, third, p, pauses), x -> x.type(first, second, third, p, pauses));
    }

    private int exponent() {
        int pick = random.nextInt(100);
        return pick < 1 ? 11 : pick < 2 ? -2 : pick < 40 ? -1 : least + random.nextInt(most - least + 1);
    }

    /** A number below a bound, seldom one that is just outside. */
    private int near(int bound) {
        int pick = random.nextInt(100);
        return pick < 1 ? -1 : pick < 2 ? bound : random.nextInt(bound);
    }

    private int nearCard() {
        int count = plain.cardCount();
        return count > 8 && random.nextInt(3) > 0 ? count - 1 - random.nextInt(8) : near(Math.max(1, count));
    }

    private String both(String call, Function<PlugTree, Number> real, Function<PlainTree, Number> due) {
        calls.add(call);
        played.add(real);
        return new Question(call, real, due).compare(tree, plain);
    }

    private record Question(String call, Function<PlugTree, Number> real, Function<PlainTree, Number> due) {
        /** Null, or how the answers differ. */
        String compare(PlugTree tree, PlainTree plain) {
            String got = answer(tree, real);
            String want = answer(plain, due);
            return got.equals(want) ? null : call + " answered " + got + ", due is " + want;
        }
    }

    private static <T> String answer(T object, Function<T, Number> call) {
        try {
            return String.valueOf(call.apply(object).longValue());
        } catch (RuntimeException e) {
            return e.getClass().getSimpleName();
        }
    }

    private String compareAll() {
        PlugTree again = new PlugTree();
        for (Function<PlugTree, Number> call : played) {
            answer(again, call);
        }
        List<Question> questions = questions();
        Collections.shuffle(questions, random);
        for (Question q : questions.subList(0, Math.min(questions.size(), MOST_CALLS - played.size()))) {
            String difference = q.compare(again, plain);
            if (difference != null) {
                return difference;
            }
        }
        return null;
    }

    private List<Question> questions() {
        List<Question> all = new ArrayList<>();
        // Numbers just outside are asked for now and then: exceptions are what takes the time here.
        int out = random.nextInt(10) == 0 ? 1 : 0;
        for (int i = -out; i < plain.bridgeCount() + out; i++) {
            int b = i;
            all.add(new Question("opening(" + b + ", false)", x -> x.opening(b, false), x -> x.opening(b, false)));
            all.add(new Question("opening(" + b + ", true)", x -> x.opening(b, true), x -> x.opening(b, true)));
            all.add(new Question("power(" + b + ")", x -> x.power(b), x -> x.power(b)));
            for (int j = -out; j < 4 + out; j++) {
                int s = j;
                all.add(new Question("slot(" + b + ", " + s + ")", x -> x.slot(b, s), x -> x.slot(b, s)));
            }
        }
        for (int i = -out; i < plain.cardCount() + out; i++) {
            int c = i;
            for (int j = -out; j < 4 + out; j++) {
                int k = j;
                all.add(new Question("card(" + c + ", " + k + ")", x -> x.card(c, k), x -> x.card(c, k)));
            }
            for (int j = -out; j < 3 + out; j++) {
                int k = j;
                all.add(new Question("range(" + c + ", " + k + ")", x -> x.range(c, k), x -> x.range(c, k)));
            }
        }
        for (int i = -out; i < plain.ticketCount() + out; i++) {
            int t = i;
            all.add(new Question("result(" + t + ")", x -> x.result(t), x -> x.result(t)));
        }
        for (int i = 0; i < 20; i++) {
            int a = random.nextInt(4200) - 50;
            all.add(new Question("decode(" + a + ")", x -> x.decode(a), x -> x.decode(a)));
        }
        all.add(new Question("moved()", PlugTree::moved, PlainTree::moved));
        return all;
    }
}
