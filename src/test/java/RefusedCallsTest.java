import java.util.function.Function;
import java.util.function.Supplier;

/**
 * Every call that is refused: just outside what is taken on both sides and far outside, for each reason the document
 * names, in the order of the exceptions; and that such a call changes nothing, neither at once nor for later calls.
 */
public final class RefusedCallsTest {
    private static final int LEAST = Integer.MIN_VALUE;
    private static final int MOST = Integer.MAX_VALUE;

    private RefusedCallsTest() {
    }

    public static void main(String[] args) {
        Check.sentence("also when a bridge, slot, type, card or ticket that is named is none");
        nothingNamed("in a new object", PlugTree::new, new int[] {1, 0, 0, 0});
        nothingNamed("while one is NEW", Scenes::unchecked, new int[] {2, 4, 5, 5});
        nothingNamed("while one is CHECKED", Scenes::checked, new int[] {2, 4, 5, 5});
        nothingNamed("after all was moved", Scenes::moved, new int[] {2, 4, 5, 5});
        nothingNamed("with 8 bridges", Scenes::eightBridges, new int[] {8, 0, 0, 0});
        nothingNamed("with 16 types", Scenes::sixteenTypes, new int[] {1, 16, 0, 0});
        nothingNamed("with 40 cards", Scenes::fortyCards, new int[] {1, 3, 40, 0});
        nothingNamed("with 8 tickets", Scenes::eightWait, new int[] {1, 1, 1, 8});
        valuesOutside("in a new object", PlugTree::new);
        valuesOutside("while one is CHECKED", Scenes::checked);
        valuesOutside("with 8 bridges", Scenes::eightBridges);
        valuesOutside("with 16 types", Scenes::sixteenTypes);
        cardValuesOutside("while one is NEW", Scenes::unchecked, 5);
        cardValuesOutside("while one is CHECKED", Scenes::checked, 5);
        cardValuesOutside("with 8 that wait", Scenes::eightWait, 1);
        bridgeInASlotThatIsNotEmpty();
        bridgeWhenThereAre8();
        bridgeAtDepth5();
        bridgeWhileACardIsNew();
        typeWhenThereAre16();
        plugInASlotThatIsNotEmpty();
        plugWhenThereAre40();
        plugWhileACardIsNew();
        pullOfOneGoneOrRefused();
        leaveOfOneNotWorking();
        requestOfOneNeitherWorkingNorPaused();
        requestWhen8Wait();
        argumentsBeforeStates();
        Check.end();
    }

    private static int[] around(int count) {
        return new int[] {LEAST, -1, count, MOST};
    }

    private static void argument(String what, Supplier<PlugTree> scene, Function<PlugTree, Object> call) {
        Check.refused(what, Check.ARGUMENT, scene, call);
    }

    private static void state(String what, Supplier<PlugTree> scene, Function<PlugTree, Object> call) {
        Check.refused(what, Check.STATE, scene, call);
    }

    /** The counts are those of the bridges, types, cards and tickets that there are. */
    private static void nothingNamed(String when, Supplier<PlugTree> scene, int[] counts) {
        for (int b : around(counts[0])) {
            argument("bridge(" + b + ", 0, 0) " + when, scene, x -> x.bridge(b, 0, 0));
            argument("plug(" + b + ", 0, 0) " + when, scene, x -> x.plug(b, 0, 0));
            argument("opening(" + b + ", false) " + when, scene, x -> x.opening(b, false));
            argument("opening(" + b + ", true) " + when, scene, x -> x.opening(b, true));
            argument("power(" + b + ") " + when, scene, x -> x.power(b));
            argument("slot(" + b + ", 0) " + when, scene, x -> x.slot(b, 0));
        }
        for (int s : around(4)) {
            argument("bridge(0, " + s + ", 0) " + when, scene, x -> x.bridge(0, s, 0));
            argument("plug(0, " + s + ", 0) " + when, scene, x -> x.plug(0, s, 0));
            argument("slot(0, " + s + ") " + when, scene, x -> x.slot(0, s));
        }
        for (int t : around(counts[1])) {
            argument("plug(0, 1, " + t + ") " + when, scene, x -> x.plug(0, 1, t));
        }
        for (int c : around(counts[2])) {
            argument("pull(" + c + ") " + when, scene, x -> x.pull(c));
            argument("leave(" + c + ") " + when, scene, x -> x.leave(c));
            argument("request(" + c + ", 0, 0) " + when, scene, x -> x.request(c, 0, 0));
            argument("work(" + c + ") " + when, scene, x -> x.work(c));
            argument("card(" + c + ", 0) " + when, scene, x -> x.card(c, 0));
            argument("range(" + c + ", 0) " + when, scene, x -> x.range(c, 0));
        }
        for (int t : around(counts[3])) {
            argument("result(" + t + ") " + when, scene, x -> x.result(t));
        }
    }

    private static void valuesOutside(String when, Supplier<PlugTree> scene) {
        Check.sentence("also when limit is not 0 .. 1000");
        for (int limit : around(1001)) {
            argument("bridge(0, 1, " + limit + ") " + when, scene, x -> x.bridge(0, 1, limit));
        }
        Check.sentence("also when an exponent is not -1 .. 10, or power not 0 .. 1000");
        for (int e : new int[] {LEAST, -2, 11, MOST}) {
            argument("first " + e + " " + when, scene, x -> x.type(e, 0, 0, 0, true));
            argument("second " + e + " " + when, scene, x -> x.type(0, e, 0, 0, true));
            argument("third " + e + " " + when, scene, x -> x.type(0, 0, e, 0, true));
            argument("the last alone " + e + " " + when, scene, x -> x.type(-1, -1, e, 0, false));
        }
        for (int power : around(1001)) {
            argument("power " + power + " " + when, scene, x -> x.type(0, 0, 0, power, true));
        }
    }

    private static void cardValuesOutside(String when, Supplier<PlugTree> scene, int cards) {
        for (int i = 0; i < cards; i++) {
            int c = i;
            Check.sentence("also when op is below 0");
            argument("request(" + c + ", -1, 0) " + when, scene, x -> x.request(c, -1, 0));
            argument("request(" + c + ", " + LEAST + ", 0) " + when, scene, x -> x.request(c, LEAST, 0));
            Check.sentence("also when what is none of these");
            for (int what : around(4)) {
                argument("card(" + c + ", " + what + ") " + when, scene, x -> x.card(c, what));
            }
            Check.sentence("also when k is none of these");
            for (int k : around(3)) {
                argument("range(" + c + ", " + k + ") " + when, scene, x -> x.range(c, k));
            }
        }
    }

    private static void bridgeInASlotThatIsNotEmpty() {
        Check.sentence("bridge: the slot is not empty");
        for (int i = 0; i < 4; i++) {
            int b = i;
            state("slot 0 of bridge " + b + " has a bridge", Scenes::chain, x -> x.bridge(b, 0, 0));
        }
        state("a WORKING card in it", Scenes::busy, x -> x.bridge(0, 0, 0));
        state("a LEAVING card in it", Scenes::busy, x -> x.bridge(0, 1, 0));
        state("a bridge in the last one", Scenes::busy, x -> x.bridge(0, 3, 1000));
    }

    private static void bridgeWhenThereAre8() {
        Check.sentence("bridge: there are 8");
        for (int i = 1; i < 8; i++) {
            int b = i;
            for (int j = b < 4 ? 1 : 0; j < 4; j++) {
                int s = j;
                state("bridge(" + b + ", " + s + ", 0)", Scenes::eightBridges, x -> x.bridge(b, s, 0));
            }
        }
    }

    private static void bridgeAtDepth5() {
        Check.sentence("bridge: its depth would be 5");
        for (int i = 0; i < 4; i++) {
            int s = i;
            state("bridge(4, " + s + ", 1)", Scenes::chain, x -> x.bridge(4, s, 1));
        }
    }

    private static void bridgeWhileACardIsNew() {
        Check.sentence("bridge: or a card is NEW");
        for (int i = 0; i < 4; i++) {
            int s = i;
            state("bridge(1, " + s + ", 0), not CHECKED", Scenes::unchecked, x -> x.bridge(1, s, 0));
            state("bridge(1, " + s + ", 0), CHECKED", Scenes::checked, x -> x.bridge(1, s, 0));
        }
        state("the slot of the NEW card", Scenes::unchecked, x -> x.bridge(0, 2, 0));
        state("the slot of the CHECKED card", Scenes::checked, x -> x.bridge(0, 2, 0));
    }

    private static void typeWhenThereAre16() {
        Check.sentence("type: there are 16");
        state("the least", Scenes::sixteenTypes, x -> x.type(-1, -1, -1, 0, false));
        state("the greatest", Scenes::sixteenTypes, x -> x.type(10, 10, 10, 1000, true));
    }

    private static void plugInASlotThatIsNotEmpty() {
        Check.sentence("plug: the slot is not empty");
        state("a WORKING card in it", Scenes::busy, x -> x.plug(0, 0, 0));
        state("a LEAVING card in it", Scenes::busy, x -> x.plug(0, 1, 0));
        state("a bridge in it", Scenes::busy, x -> x.plug(0, 3, 0));
        state("a card that was moved in it", Scenes::moved, x -> x.plug(0, 2, 3));
    }

    private static void plugWhenThereAre40() {
        Check.sentence("plug: there are 40");
        for (int i = 1; i < 4; i++) {
            int s = i;
            state("plug(0, " + s + ", 0)", Scenes::fortyCards, x -> x.plug(0, s, 0));
        }
    }

    private static void plugWhileACardIsNew() {
        Check.sentence("plug: or a card is NEW");
        for (int i = 0; i < 4; i++) {
            int s = i;
            state("plug(1, " + s + ", 0), not CHECKED", Scenes::unchecked, x -> x.plug(1, s, 0));
            state("plug(1, " + s + ", 0), CHECKED", Scenes::checked, x -> x.plug(1, s, 0));
        }
        state("the slot of the NEW card", Scenes::unchecked, x -> x.plug(0, 2, 0));
        state("the slot of the CHECKED card", Scenes::checked, x -> x.plug(0, 2, 0));
    }

    private static void pullOfOneGoneOrRefused() {
        Check.sentence("pull: it is GONE or REFUSED");
        state("GONE by pull", Scenes::busy, x -> x.pull(1));
        state("GONE by leave", Scenes::moved, x -> x.pull(2));
        state("REFUSED", Scenes::busy, x -> x.pull(3));
        state("GONE while one is CHECKED", Scenes::checked, x -> x.pull(1));
        state("REFUSED while one is CHECKED", Scenes::checked, x -> x.pull(3));
        state("REFUSED as the last but one", Scenes::fortyCards, x -> x.pull(38));
        Supplier<PlugTree> pulled = () -> {
            PlugTree x = Scenes.checked();
            x.pull(4);
            return x;
        };
        state("GONE when it was CHECKED", pulled, x -> x.pull(4));
    }

    private static void leaveOfOneNotWorking() {
        Check.sentence("leave: it is not WORKING");
        state("NEW", Scenes::unchecked, x -> x.leave(4));
        state("NEW and CHECKED", Scenes::checked, x -> x.leave(4));
        state("PAUSED", Scenes::checked, x -> x.leave(0));
        state("LEAVING", Scenes::busy, x -> x.leave(2));
        state("GONE by pull", Scenes::busy, x -> x.leave(1));
        state("GONE by leave", Scenes::moved, x -> x.leave(2));
        state("REFUSED", Scenes::busy, x -> x.leave(3));
    }

    private static void requestOfOneNeitherWorkingNorPaused() {
        Check.sentence("request: the card is neither WORKING nor PAUSED");
        state("NEW", Scenes::unchecked, x -> x.request(4, 0, 0));
        state("NEW and CHECKED", Scenes::checked, x -> x.request(4, 0, 0));
        state("LEAVING", Scenes::busy, x -> x.request(2, 0, 0));
        state("GONE by pull", Scenes::busy, x -> x.request(1, 0, 0));
        state("GONE by leave", Scenes::moved, x -> x.request(2, 0, 0));
        state("REFUSED", Scenes::busy, x -> x.request(3, 0, 0));
    }

    private static void requestWhen8Wait() {
        Check.sentence("request: or 8 wait that are not finished");
        state("8 that are not started", Scenes::eightWait, x -> x.request(0, 0, 0));
        state("one of 8 is started", Scenes::eightWithOneStarted, x -> x.request(0, MOST, 1));
        Supplier<PlugTree> paused = () -> {
            PlugTree x = Scenes.checked();
            for (int i = 0; i < 5; i++) {
                x.request(0, 0, i);
            }
            return x;
        };
        state("8 of a PAUSED one", paused, x -> x.request(0, 0, 0));
        Supplier<PlugTree> again = () -> {
            PlugTree x = Scenes.eightWithOneStarted();
            x.work(0);
            x.request(0, 2, 2);
            return x;
        };
        state("8 again after one was finished", again, x -> x.request(0, 0, 0));
    }

    private static void argumentsBeforeStates() {
        Check.sentence("Exceptions are thrown in the order in which they are named");
        argument("limit, and the slot is not empty", Scenes::busy, x -> x.bridge(0, 0, 1001));
        argument("limit, and there are 8", Scenes::eightBridges, x -> x.bridge(1, 1, -1));
        argument("slot, and there are 8", Scenes::eightBridges, x -> x.bridge(1, 4, 0));
        argument("limit, and depth 5", Scenes::chain, x -> x.bridge(4, 0, 1001));
        argument("slot, and depth 5", Scenes::chain, x -> x.bridge(4, -1, 0));
        argument("limit, and a card is NEW", Scenes::unchecked, x -> x.bridge(1, 0, -1));
        argument("exponent, and there are 16", Scenes::sixteenTypes, x -> x.type(0, 0, 11, 0, true));
        argument("power, and there are 16", Scenes::sixteenTypes, x -> x.type(0, 0, 0, 1001, true));
        argument("type, and the slot is not empty", Scenes::busy, x -> x.plug(0, 0, 4));
        argument("type, and there are 40", Scenes::fortyCards, x -> x.plug(0, 1, 3));
        argument("type, and a card is NEW", Scenes::unchecked, x -> x.plug(1, 0, 4));
        argument("slot, and a card is NEW", Scenes::unchecked, x -> x.plug(1, 4, 0));
        argument("op, and the card is GONE", Scenes::busy, x -> x.request(1, -1, 0));
        argument("op, and 8 wait", Scenes::eightWait, x -> x.request(0, -1, 0));
    }
}
