import java.util.function.Function;
import java.util.function.Supplier;

/**
 * Calls that are taken because none of the reasons that the document names for an exception stands against them,
 * whatever else goes on in the tree.
 */
public final class TakenCallsTest {
    private TakenCallsTest() {
    }

    public static void main(String[] args) {
        bridges();
        plugs();
        pulls();
        leaves();
        requests();
        questionsOfAnyCard();
        Check.end();
    }

    private static void taken(String what, long want, Supplier<PlugTree> scene, Function<PlugTree, Number> call) {
        try {
            Check.due(what, want, call.apply(scene.get()).longValue());
        } catch (RuntimeException e) {
            Check.say(what + " threw " + e + ", due is " + want);
        }
    }

    private static void bridges() {
        Check.sentence("bridge: the slot is not empty, there are 8, its depth would be 5, or a card is NEW");
        taken("in the slot of one REFUSED, beside one LEAVING", 2, Scenes::busy, x -> x.bridge(0, 2, 0));
        taken("below a bridge, beside one LEAVING", 2, Scenes::busy, x -> x.bridge(1, 0, 1000));
        taken("in the slot of one GONE", 2, Scenes::moved, x -> x.bridge(0, 1, 1));
        taken("with 16 types", 1, Scenes::sixteenTypes, x -> x.bridge(0, 0, 0));
        taken("with 40 cards", 1, Scenes::fortyCards, x -> x.bridge(0, 3, 0));
        taken("with 8 requests", 1, Scenes::eightWithOneStarted, x -> x.bridge(0, 3, 0));
        taken("when a CHECKED one is pulled", 2, Scenes::checked, x -> {
            x.pull(4);
            return x.bridge(0, 2, 0);
        });
    }

    private static void plugs() {
        Check.sentence("plug: the slot is not empty, there are 40, or a card is NEW");
        taken("in the slot of one REFUSED, beside one LEAVING", 4, Scenes::busy, x -> x.plug(0, 2, 2));
        taken("in an EMPTY opening", 4, Scenes::busy, x -> x.plug(1, 3, 1));
        taken("in the slot of one GONE", 5, Scenes::moved, x -> x.plug(0, 1, 1));
        taken("of more power than there is", 4, Scenes::busy, x -> x.plug(1, 0, 3));
        taken("with 8 bridges", 0, Scenes::eightBridges, x -> {
            x.type(10, 10, 10, 1000, false);
            return x.plug(7, 3, 0);
        });
        taken("of the last of 16 types", 0, Scenes::sixteenTypes, x -> x.plug(0, 3, 15));
        taken("with 8 requests", 1, Scenes::eightWithOneStarted, x -> x.plug(0, 3, 0));
        taken("when a NEW one is pulled", 5, Scenes::unchecked, x -> {
            x.pull(4);
            return x.plug(0, 2, 0);
        });
        taken("when a CHECKED one is pulled", 5, Scenes::checked, x -> {
            x.pull(4);
            return x.plug(0, 2, 0);
        });
    }

    private static void pulls() {
        Check.sentence("pull: it is GONE or REFUSED");
        taken("WORKING", 3, Scenes::busy, x -> x.pull(0));
        taken("LEAVING", 1, Scenes::busy, x -> x.pull(2));
        taken("WORKING while one is NEW", 3, Scenes::unchecked, x -> x.pull(0));
        taken("LEAVING while one is NEW", 1, Scenes::unchecked, x -> x.pull(2));
        taken("NEW", 0, Scenes::unchecked, x -> x.pull(4));
        taken("PAUSED", 3, Scenes::checked, x -> x.pull(0));
        taken("LEAVING while one is CHECKED", 1, Scenes::checked, x -> x.pull(2));
        taken("NEW and CHECKED", 0, Scenes::checked, x -> x.pull(4));
        taken("the last of 40", 0, Scenes::fortyCards, x -> x.pull(39));
    }

    private static void leaves() {
        Check.sentence("leave: it is not WORKING");
        taken("while another is LEAVING", 2, Scenes::busy, x -> x.leave(0));
        taken("while one is NEW", 2, Scenes::unchecked, x -> x.leave(0));
        taken("after all was moved", 2, Scenes::moved, x -> x.leave(0));
        taken("the one for which all was moved", 0, Scenes::moved, x -> x.leave(4));
        taken("when a CHECKED one is pulled", 2, Scenes::checked, x -> {
            x.pull(4);
            return x.leave(0);
        });
        taken("one that cannot pause", 0, PlugTree::new, x -> {
            x.type(0, -1, -1, 0, false);
            return x.leave(Scenes.settled(x, 0, 0, 0));
        });
        taken("while one is NEW, which then is looked at without it", PlugTree.WORKING, Scenes::fragmented, x -> {
            x.plug(0, 2, 1);
            x.leave(0);
            x.leave(2);
            x.step();
            return x.card(3, 0);
        });
    }

    private static void requests() {
        Check.sentence("request: the card is neither WORKING nor PAUSED, or 8 wait that are not finished");
        taken("WORKING", 5, Scenes::busy, x -> x.request(0, 0, 0));
        taken("WORKING while one is NEW", 5, Scenes::unchecked, x -> x.request(0, 0, 0));
        taken("PAUSED", 5, Scenes::checked, x -> x.request(0, 0, 0));
        taken("WORKING after all was moved", 5, Scenes::moved, x -> x.request(0, 0, 0));
        taken("the one for which all was moved", 5, Scenes::moved, x -> x.request(4, 0, 0));
        taken("one without ranges", 0, PlugTree::new, x -> {
            x.type(-1, -1, -1, 0, false);
            return x.request(Scenes.settled(x, 0, 0, 0), Integer.MAX_VALUE, Integer.MIN_VALUE);
        });
        taken("an eighth", 8, Scenes::eightWithOneStarted, x -> {
            x.work(0);
            return x.request(0, 0, 0);
        });
    }

    private static void questionsOfAnyCard() {
        Check.sentence("IllegalArgumentException: .. a card that is named is none (those GONE and REFUSED are cards)");
        for (int c = 0; c < 5; c++) {
            int card = c;
            int[] states = {PlugTree.PAUSED, PlugTree.GONE, PlugTree.LEAVING, PlugTree.REFUSED, PlugTree.NEW};
            int[] reasons = {0, 0, 0, PlugTree.POWER, 0};
            int[] begins = {0, PlugTree.NONE, 1024, PlugTree.NONE, PlugTree.NONE};
            int[] pieces = {1, 0, 1, 0, 0};
            taken("what card " + c + " is", states[c], Scenes::checked, x -> x.card(card, 0));
            taken("for what card " + c + " was REFUSED", reasons[c], Scenes::checked, x -> x.card(card, 1));
            taken("where card " + c + " begins", begins[c], Scenes::checked, x -> x.range(card, 0));
            taken("work of card " + c, pieces[c], Scenes::checked, x -> x.work(card) ? 1 : 0);
        }
    }
}
