import java.util.function.Supplier;

/** Each promise of the document by its number: ordinary calls, the edges that are named, and wrong calls. */
public final class PromisesTest {
    private PromisesTest() {
    }

    public static void main(String[] args) {
        newObject();
        bridges();
        bridgeStates();
        types();
        plugs();
        stepsOfPower();
        stepsOfPowerCountLeaving();
        stepsOfFitting();
        stepsOfFittingSameSize();
        stepsOfGrowing();
        stepsOfGrowingBetween();
        stepsOfOpening();
        stepsOfNeighbour();
        stepsOfRoom();
        stepsOfMoving();
        stepsOfMovingWithoutOneThatLeft();
        stepAnswers();
        settles();
        pulls();
        leaves();
        requests();
        works();
        results();
        cards();
        ranges();
        openings();
        decodes();
        powers();
        slots();
        movedRanges();
        packingOrder();
        packingBlocks();
        longRunStaysSafe();
        Check.end();
    }

    private static void newObject() {
        Check.promise(1);
        PlugTree x = new PlugTree();
        for (int s = 0; s < 4; s++) {
            Check.due("slot of the root", PlugTree.NONE, x.slot(0, s));
        }
        Check.due("opening(0, false)", 0, x.opening(0, false));
        Check.due("opening(0, true)", 4096, x.opening(0, true));
        Check.due("power(0)", 0, x.power(0));
        Check.due("moved()", 0, x.moved());
        Check.due("step()", false, x.step());
        Check.due("settle()", 0, x.settle());
        Check.thrown("opening(1, true)", Check.ARGUMENT, () -> x.opening(1, true));
        Check.thrown("card(0, 0)", Check.ARGUMENT, () -> x.card(0, 0));
        Check.thrown("plug(0, 0, 0)", Check.ARGUMENT, () -> x.plug(0, 0, 0));
        Check.thrown("result(0)", Check.ARGUMENT, () -> x.result(0));
        // A second object has nothing of the first.
        x.bridge(0, 0, 0);
        Check.due("slot of another root", PlugTree.NONE, new PlugTree().slot(0, 0));
        // The root's limit is 1000.
        x.type(-1, -1, -1, 1000, true);
        x.type(-1, -1, -1, 1, true);
        Check.due("with all power", PlugTree.WORKING, x.card(Scenes.settled(x, 0, 1, 0), 0));
        Check.due("with more", PlugTree.POWER, x.card(Scenes.settled(x, 0, 2, 1), 1));
    }

    private static void bridges() {
        Check.promise(2);
        PlugTree x = new PlugTree();
        Check.thrown("parent -1", Check.ARGUMENT, () -> x.bridge(-1, 0, 0));
        Check.thrown("parent 1", Check.ARGUMENT, () -> x.bridge(1, 0, 0));
        Check.thrown("slot -1", Check.ARGUMENT, () -> x.bridge(0, -1, 0));
        Check.thrown("slot 4", Check.ARGUMENT, () -> x.bridge(0, 4, 0));
        Check.thrown("limit -1", Check.ARGUMENT, () -> x.bridge(0, 0, -1));
        Check.thrown("limit 1001", Check.ARGUMENT, () -> x.bridge(0, 0, 1001));
        Check.due("limit 0", 1, x.bridge(0, 3, 0));
        Check.due("limit 1000", 2, x.bridge(1, 0, 1000));
        Check.due("in the slot", 1, x.slot(0, 3));
        Check.due("in the slot below", 2, x.slot(1, 0));
        Check.due("depth 3", 3, x.bridge(2, 1, 1));
        Check.due("depth 4", 4, x.bridge(3, 2, 1));
        Check.thrown("depth 5", Check.STATE, () -> x.bridge(4, 0, 1));
        Check.thrown("slot with a bridge", Check.STATE, () -> x.bridge(0, 3, 1));
        Check.thrown("wrong limit and slot with a bridge", Check.ARGUMENT, () -> x.bridge(0, 3, 1001));
        Check.due("sixth", 5, x.bridge(3, 0, 1));
        Check.due("seventh", 6, x.bridge(0, 0, 1));
        Check.due("eighth", 7, x.bridge(0, 1, 1));
        Check.thrown("ninth", Check.STATE, () -> x.bridge(0, 2, 1));
        Check.due("slot of the ninth", PlugTree.NONE, x.slot(0, 2));
        Check.thrown("opening of the ninth", Check.ARGUMENT, () -> x.opening(8, false));
    }

    private static void bridgeStates() {
        Check.promise(2);
        PlugTree x = new PlugTree();
        x.type(0, -1, -1, 0, true);
        x.plug(0, 0, 0);
        Check.thrown("while a card is NEW", Check.STATE, () -> x.bridge(0, 1, 1));
        x.settle();
        Check.thrown("slot with a card", Check.STATE, () -> x.bridge(0, 0, 1));
        Check.due("beside the card", 1, x.bridge(0, 1, 1));
        x.pull(0);
        Check.due("in the slot of a card that is GONE", 2, x.bridge(0, 0, 1));
    }

    private static void types() {
        Check.promise(3);
        PlugTree x = new PlugTree();
        Check.thrown("first 11", Check.ARGUMENT, () -> x.type(11, 0, 0, 0, true));
        Check.thrown("second 11", Check.ARGUMENT, () -> x.type(0, 11, 0, 0, true));
        Check.thrown("third 11", Check.ARGUMENT, () -> x.type(0, 0, 11, 0, true));
        Check.thrown("first -2", Check.ARGUMENT, () -> x.type(-2, 0, 0, 0, true));
        Check.thrown("second -2", Check.ARGUMENT, () -> x.type(0, -2, 0, 0, true));
        Check.thrown("third -2", Check.ARGUMENT, () -> x.type(0, 0, -2, 0, true));
        Check.thrown("power -1", Check.ARGUMENT, () -> x.type(0, 0, 0, -1, true));
        Check.thrown("power 1001", Check.ARGUMENT, () -> x.type(0, 0, 0, 1001, true));
        Check.due("least", 0, x.type(-1, -1, -1, 0, false));
        Check.due("greatest", 1, x.type(10, 10, 10, 1000, true));
        Check.due("sizes in any order", 2, x.type(0, 3, 1, 5, true));
        for (int i = 3; i < 16; i++) {
            Check.due("type", i, x.type(0, -1, 0, i, true));
        }
        Check.thrown("a 17th", Check.STATE, () -> x.type(0, 0, 0, 0, true));
        Check.thrown("a wrong 17th", Check.ARGUMENT, () -> x.type(0, 0, 0, 1001, true));
        int card = Scenes.settled(x, 0, 0, 2);
        Check.due("range of 8", 0, x.range(card, 1));
        Check.due("range of 2", 8, x.range(card, 2));
        Check.due("range of 1", 10, x.range(card, 0));
        Check.due("power of the type", 5, x.power(0));
        int none = Scenes.settled(x, 0, 1, 0);
        Check.due("no range at all", PlugTree.WORKING, x.card(none, 0));
        Check.due("its range", PlugTree.NONE, x.range(none, 0));
    }

    private static void plugs() {
        Check.promise(4);
        PlugTree x = new PlugTree();
        x.type(-1, -1, -1, 0, true);
        Check.thrown("bridge -1", Check.ARGUMENT, () -> x.plug(-1, 0, 0));
        Check.thrown("bridge 1", Check.ARGUMENT, () -> x.plug(1, 0, 0));
        Check.thrown("slot -1", Check.ARGUMENT, () -> x.plug(0, -1, 0));
        Check.thrown("slot 4", Check.ARGUMENT, () -> x.plug(0, 4, 0));
        Check.thrown("type -1", Check.ARGUMENT, () -> x.plug(0, 0, -1));
        Check.thrown("type 1", Check.ARGUMENT, () -> x.plug(0, 0, 1));
        x.bridge(0, 1, 0);
        Check.thrown("slot with a bridge", Check.STATE, () -> x.plug(0, 1, 0));
        Check.due("the first", 0, x.plug(0, 0, 0));
        Check.due("is NEW", PlugTree.NEW, x.card(0, 0));
        Check.due("in its slot", 100, x.slot(0, 0));
        Check.thrown("while one is NEW", Check.STATE, () -> x.plug(0, 2, 0));
        Check.thrown("wrong type while one is NEW", Check.ARGUMENT, () -> x.plug(0, 2, 1));
        x.settle();
        Check.thrown("slot with a card", Check.STATE, () -> x.plug(0, 0, 0));
        for (int i = 1; i < 40; i++) {
            Check.due("another", i, Scenes.settled(x, 0, 2, 0));
            x.pull(i);
        }
        Check.thrown("a 41st", Check.STATE, () -> x.plug(0, 2, 0));
        Check.due("the slot of the 41st", PlugTree.NONE, x.slot(0, 2));
    }

    private static void stepsOfPower() {
        Check.promise(5);
        PlugTree x = new PlugTree();
        x.bridge(0, 0, 10);
        x.bridge(1, 0, 100);
        x.type(-1, -1, -1, 6, true);
        x.type(-1, -1, -1, 4, true);
        x.type(-1, -1, -1, 1, true);
        x.type(-1, -1, -1, 0, true);
        Check.due("below the limit", PlugTree.WORKING, x.card(Scenes.settled(x, 2, 0, 0), 0));
        Check.due("up to the limit of the bridge above", PlugTree.WORKING, x.card(Scenes.settled(x, 2, 1, 1), 0));
        int more = Scenes.settled(x, 2, 2, 2);
        Check.due("above it", PlugTree.REFUSED, x.card(more, 0));
        Check.due("for", PlugTree.POWER, x.card(more, 1));
        Check.due("its slot", PlugTree.NONE, x.slot(2, 2));
        Check.due("with no power", PlugTree.WORKING, x.card(Scenes.settled(x, 2, 2, 3), 0));
        Check.due("beside the bridge", PlugTree.WORKING, x.card(Scenes.settled(x, 0, 1, 2), 0));
    }

    private static void stepsOfPowerCountLeaving() {
        Check.promise(5);
        PlugTree x = new PlugTree();
        x.type(-1, -1, -1, 600, true);
        Scenes.settled(x, 0, 0, 0);
        x.request(0, 0, 0);
        x.request(0, 1, 0);
        x.work(0);
        x.work(0);
        x.leave(0);
        Check.due("while one is LEAVING", PlugTree.POWER, x.card(Scenes.settled(x, 0, 1, 0), 1));
        x.work(0);
        // The card is GONE and the next one is looked at in the same step.
        x.plug(0, 1, 0);
        Check.due("step()", true, x.step());
        Check.due("the one that left", PlugTree.GONE, x.card(0, 0));
        Check.due("after it has gone", PlugTree.WORKING, x.card(2, 0));
    }

    private static void stepsOfFitting() {
        Check.promise(5);
        PlugTree x = new PlugTree();
        x.type(8, -1, -1, 0, true);
        x.type(7, -1, -1, 0, true);
        x.type(10, 10, 10, 0, true);
        x.type(6, 7, -1, 0, true);
        x.type(9, -1, -1, 0, true);
        Scenes.settled(x, 0, 0, 0);
        Scenes.settled(x, 0, 1, 1);
        Scenes.settled(x, 0, 2, 2);
        // Holes: 384 .. 1024 alone. Then the first card goes: 0 .. 256 too, which is the smaller one.
        x.pull(0);
        int small = Scenes.settled(x, 0, 0, 3);
        Check.due("the greater range into the smaller hole", 0, x.range(small, 1));
        Check.due("then the other", 128, x.range(small, 0));
        int great = Scenes.settled(x, 0, 3, 4);
        Check.due("a multiple of its size in the hole that has one", 512, x.range(great, 0));
        Check.due("WORKING", PlugTree.WORKING, x.card(great, 0));
    }

    private static void stepsOfFittingSameSize() {
        Check.promise(5);
        PlugTree x = new PlugTree();
        x.type(9, -1, -1, 0, true);
        x.type(10, 10, 9, 0, true);
        x.type(8, 8, -1, 0, true);
        x.type(10, -1, -1, 0, true);
        int first = Scenes.settled(x, 0, 0, 0);
        int second = Scenes.settled(x, 0, 1, 1);
        int third = Scenes.settled(x, 0, 2, 3);
        Check.due("the second's ranges", 512, x.range(second, 2));
        Check.due("the third", 3072, x.range(third, 0));
        x.pull(first);
        int fourth = Scenes.settled(x, 0, 0, 2);
        Check.due("range 0 first", 0, x.range(fourth, 0));
        Check.due("then range 1", 256, x.range(fourth, 1));
        x.pull(fourth);
        x.pull(second);
        x.pull(third);
        // Two holes of 1024 with a card between and one at the end.
        Scenes.settled(x, 0, 0, 3);
        Scenes.settled(x, 0, 1, 3);
        Scenes.settled(x, 0, 2, 3);
        Scenes.settled(x, 0, 3, 3);
        Check.due("four of 1024", PlugTree.WORKING, x.card(7, 0));
        x.pull(6);
        x.pull(4);
        Check.due("of holes as great the first", 0, x.range(Scenes.settled(x, 0, 2, 0), 0));
    }

    private static void stepsOfGrowing() {
        Check.promise(5);
        PlugTree x = new PlugTree();
        x.bridge(0, 0, 1000);
        x.type(6, -1, -1, 0, true);
        x.type(7, -1, -1, 0, true);
        x.type(5, -1, -1, 0, true);
        Scenes.settled(x, 1, 0, 0);
        Check.due("64 at first", 64, x.opening(1, true));
        Check.due("settled by growing", PlugTree.WORKING, x.card(Scenes.settled(x, 1, 1, 1), 0));
        Check.due("up to a multiple of 128 with room", 256, x.opening(1, true));
        Check.due("its beginning", 128, x.range(1, 0));
        Scenes.settled(x, 1, 2, 2);
        Check.due("a hole is taken before growing", 64, x.range(2, 0));
        Check.due("the opening stays", 256, x.opening(1, true));
        // A range of one address above stops the growing.
        x.type(0, -1, -1, 0, false);
        int stop = Scenes.settled(x, 0, 1, 3);
        Check.due("the stop", 256, x.range(stop, 0));
        int refused = Scenes.settled(x, 1, 3, 1);
        Check.due("refused", PlugTree.NEIGHBOUR, x.card(refused, 1));
        Check.due("and the opening stays", 256, x.opening(1, true));
    }

    private static void stepsOfGrowingBetween() {
        Check.promise(5);
        PlugTree x = new PlugTree();
        x.bridge(0, 0, 1000);
        x.bridge(0, 1, 1000);
        x.type(6, -1, -1, 0, true);
        x.type(6, 6, -1, 0, true);
        Scenes.settled(x, 1, 0, 0);
        Scenes.settled(x, 2, 0, 0);
        Check.due("the second opening", 64, x.opening(2, false));
        x.plug(1, 1, 0);
        Check.due("no growing through another opening", true, x.step());
        Check.due("NEW still", PlugTree.NEW, x.card(2, 0));
        Check.due("the others pause", PlugTree.PAUSED, x.card(0, 0));
        x.step();
        Check.due("moved", 128, x.opening(1, true));
        // A bridge below grows only within the opening above it.
        x.bridge(2, 1, 1000);
        x.plug(3, 0, 0);
        x.step();
        Check.due("the opening above is full", PlugTree.NEW, x.card(3, 0));
        x.step();
        Check.due("opening of 2", 128, x.opening(2, false));
        Check.due("its end", 256, x.opening(2, true));
        Check.due("its own card behind", 128, x.range(1, 0));
        Check.due("opening of 3", 192, x.opening(3, false));
        // When the card beside is gone its addresses are still not those of the bridge behind it.
        x.pull(1);
        x.plug(3, 1, 0);
        x.step();
        Check.due("an opening does not grow downwards", PlugTree.NEW, x.card(4, 0));
    }

    private static void stepsOfOpening() {
        Check.promise(5);
        PlugTree x = new PlugTree();
        x.type(0, -1, -1, 0, true);
        x.type(7, -1, -1, 0, true);
        x.type(7, 0, -1, 0, true);
        x.bridge(0, 0, 1000);
        x.bridge(1, 1, 1000);
        Scenes.settled(x, 0, 1, 0);
        Scenes.settled(x, 1, 0, 1);
        Check.due("the first beginning that is free", 64, x.opening(1, false));
        Check.due("a range of 128 in it", 128, x.range(1, 0));
        Check.due("its end", 256, x.opening(1, true));
        Scenes.settled(x, 2, 0, 0);
        Check.due("below, from the opening above on", 64, x.opening(2, false));
        Check.due("below, the end", 128, x.opening(2, true));
        // From an empty opening on it grows as far as all ranges need.
        PlugTree y = new PlugTree();
        y.type(7, 0, -1, 0, true);
        y.bridge(0, 0, 1000);
        Scenes.settled(y, 0, 1, 0);
        Check.due("range 1 of the first", 128, y.range(0, 1));
        Scenes.settled(y, 1, 0, 0);
        Check.due("from", 192, y.opening(1, false));
        Check.due("to", 384, y.opening(1, true));
        Check.due("the greater range", 256, y.range(1, 0));
        Check.due("the lesser range in the smallest hole", 192, y.range(1, 1));
    }

    private static void stepsOfNeighbour() {
        Check.promise(5);
        PlugTree x = new PlugTree();
        x.type(10, 10, 10, 0, false);
        x.type(10, 10, -1, 0, true);
        Scenes.settled(x, 0, 0, 0);
        int refused = Scenes.settled(x, 0, 1, 1);
        Check.due("REFUSED", PlugTree.REFUSED, x.card(refused, 0));
        Check.due("for a NEIGHBOUR, though there is no ROOM either", PlugTree.NEIGHBOUR, x.card(refused, 1));
        Check.due("its slot", PlugTree.NONE, x.slot(0, 1));
        // One that is LEAVING is there as well.
        x.request(0, 1, 1);
        x.work(0);
        x.leave(0);
        Check.due("one that is LEAVING", PlugTree.NEIGHBOUR, x.card(Scenes.settled(x, 0, 1, 1), 1));
        x.work(0);
        Check.due("with that one GONE", PlugTree.WORKING, x.card(Scenes.settled(x, 0, 1, 1), 0));
        // That the new card itself cannot pause is no hindrance.
        PlugTree y = Scenes.fragmented();
        y.plug(0, 2, 2);
        y.step();
        Check.due("the new card cannot pause", PlugTree.NEW, y.card(3, 0));
        Check.due("the others do", PlugTree.PAUSED, y.card(0, 0));
    }

    private static void stepsOfRoom() {
        Check.promise(5);
        PlugTree x = new PlugTree();
        x.type(10, 10, 10, 0, true);
        x.type(10, 0, -1, 0, true);
        x.type(10, -1, -1, 0, true);
        Scenes.settled(x, 0, 0, 0);
        int refused = Scenes.settled(x, 0, 1, 1);
        Check.due("one address too many", PlugTree.ROOM, x.card(refused, 1));
        Check.due("the others go on", PlugTree.WORKING, x.card(0, 0));
        Check.due("just enough", PlugTree.WORKING, x.card(Scenes.settled(x, 0, 1, 2), 0));
        // Blocks of bridges count with their full size: 1025 addresses need 2048.
        PlugTree y = new PlugTree();
        y.type(10, 10, 10, 0, true);
        y.type(10, 0, -1, 0, true);
        y.type(0, -1, -1, 0, true);
        y.bridge(0, 0, 1000);
        y.bridge(1, 0, 1000);
        Scenes.settled(y, 0, 1, 0);
        Check.due("too deep to grow, too great to pack", PlugTree.ROOM, y.card(Scenes.settled(y, 2, 0, 1), 1));
        Check.due("small enough to pack", PlugTree.WORKING, y.card(Scenes.settled(y, 2, 0, 2), 0));
    }

    private static void stepsOfMoving() {
        Check.promise(5);
        PlugTree x = Scenes.fragmented();
        x.request(0, 1, 5);
        x.request(2, 0, 6);
        x.work(0);
        x.plug(0, 2, 1);
        Check.due("checked", true, x.step());
        Check.due("PAUSED", PlugTree.PAUSED, x.card(0, 0));
        Check.due("PAUSED too", PlugTree.PAUSED, x.card(2, 0));
        Check.due("NEW", PlugTree.NEW, x.card(3, 0));
        Check.due("no power of it yet", 2, x.power(0));
        Check.due("no range of it yet", PlugTree.NONE, x.range(3, 0));
        Check.due("a request is started", false, x.step());
        Check.due("no work of one that is not started", false, x.work(2));
        Check.due("the started one goes on", true, x.work(0));
        Check.due("moved", true, x.step());
        Check.due("WORKING", PlugTree.WORKING, x.card(0, 0));
        Check.due("WORKING too", PlugTree.WORKING, x.card(2, 0));
        Check.due("and it", PlugTree.WORKING, x.card(3, 0));
        Check.due("the greatest first", 0, x.range(3, 0));
        Check.due("its second range", 1024, x.range(3, 1));
        Check.due("its third range", 2048, x.range(3, 2));
        Check.due("then by slots", 3072, x.range(0, 0));
        Check.due("then by slots", 3584, x.range(2, 0));
        Check.due("nothing more", false, x.step());
        Check.due("the one that waited is lost by nobody", true, x.work(2));
        Check.due("and finished", 6, x.result(1));
    }

    private static void stepsOfMovingWithoutOneThatLeft() {
        Check.promise(5);
        PlugTree x = Scenes.fragmented();
        x.request(2, 0, 0);
        x.request(2, 1, 0);
        x.work(2);
        x.work(2);
        x.leave(2);
        x.plug(0, 2, 1);
        x.step();
        Check.due("LEAVING stays LEAVING", PlugTree.LEAVING, x.card(2, 0));
        Check.due("the other pauses", PlugTree.PAUSED, x.card(0, 0));
        Check.due("a started request of one that is LEAVING holds it up", false, x.step());
        x.work(2);
        Check.due("GONE and moved in one step", true, x.step());
        Check.due("GONE", PlugTree.GONE, x.card(2, 0));
        Check.due("WORKING", PlugTree.WORKING, x.card(3, 0));
        Check.due("packed without it", 3072, x.range(0, 0));
        Check.due("its addresses", PlugTree.NONE, x.decode(3584));
    }

    private static void stepAnswers() {
        Check.promise(5);
        PlugTree x = new PlugTree();
        x.type(10, -1, -1, 1000, true);
        Check.due("nothing to do", false, x.step());
        x.plug(0, 0, 0);
        Check.due("WORKING", true, x.step());
        Check.due("nothing to do", false, x.step());
        x.plug(0, 1, 0);
        Check.due("REFUSED", true, x.step());
        Check.due("nothing to do", false, x.step());
        x.leave(0);
        Check.due("GONE", true, x.step());
        Check.due("nothing to do", false, x.step());
        // A card is GONE while a checked one waits for another.
        PlugTree y = Scenes.fragmented();
        y.request(0, 7, 0);
        y.work(0);
        y.leave(2);
        y.plug(0, 2, 1);
        Check.due("GONE and WORKING at once", true, y.step());
        Check.due("GONE", PlugTree.GONE, y.card(2, 0));
        PlugTree z = Scenes.fragmented();
        for (int card = 0; card < 3; card += 2) {
            z.request(card, 1, 0);
            z.work(card);
        }
        z.leave(2);
        z.plug(0, 2, 1);
        z.step();
        z.work(2);
        Check.due("GONE, and the checked one waits", true, z.step());
        Check.due("NEW", PlugTree.NEW, z.card(3, 0));
        Check.due("waits", false, z.step());
    }

    private static void settles() {
        Check.promise(6);
        PlugTree x = Scenes.fragmented();
        Check.due("nothing", 0, x.settle());
        x.plug(0, 2, 1);
        Check.due("checked and moved", 2, x.settle());
        Check.due("nothing more", 0, x.settle());
        x.leave(0);
        Check.due("GONE", 1, x.settle());
        PlugTree y = Scenes.fragmented();
        y.request(0, 0, 0);
        y.request(0, 3, 0);
        y.work(0);
        y.work(0);
        y.plug(0, 2, 1);
        Check.due("checked alone", 1, y.settle());
        Check.due("held up", 0, y.settle());
        Check.due("PAUSED", PlugTree.PAUSED, y.card(0, 0));
    }

    private static void pulls() {
        Check.promise(7);
        PlugTree x = Scenes.fragmented();
        Check.thrown("card -1", Check.ARGUMENT, () -> x.pull(-1));
        Check.thrown("card 3", Check.ARGUMENT, () -> x.pull(3));
        Check.thrown("GONE already", Check.STATE, () -> x.pull(1));
        for (int i = 0; i < 8; i++) {
            x.request(0, 0, i);
        }
        x.work(0);
        x.request(0, 1, 0);
        x.work(0);
        x.work(0);
        x.plug(0, 2, 1);
        x.step();
        Check.due("a NEW one that is checked", 0, x.pull(3));
        Check.due("the others are WORKING", PlugTree.WORKING, x.card(0, 0));
        Check.due("the others are WORKING", PlugTree.WORKING, x.card(2, 0));
        Check.due("its slot", PlugTree.NONE, x.slot(0, 2));
        Check.due("nothing is moved", false, x.step());
        x.plug(0, 2, 1);
        Check.due("a NEW one that is not checked", 0, x.pull(4));
        x.plug(0, 2, 1);
        x.step();
        Check.due("a PAUSED one", 6, x.pull(0));
        Check.due("GONE", PlugTree.GONE, x.card(0, 0));
        Check.due("no request left", 0, x.card(0, 2));
        Check.due("finished ones keep their results", 0, x.result(0));
        Check.due("the others are lost", PlugTree.LOST, x.result(7));
        Check.due("the others stay PAUSED", PlugTree.PAUSED, x.card(2, 0));
        Check.due("and all is moved", true, x.step());
        Check.due("WORKING", PlugTree.WORKING, x.card(5, 0));
        Check.due("where packing has it", 0, x.range(5, 0));
        x.request(2, 3, 0);
        x.request(2, 3, 0);
        x.work(2);
        Check.due("one is lost by leave", 1, x.leave(2));
        Check.due("the started one by pull", 1, x.pull(2));
        Check.due("its pieces", 0, x.card(2, 3));
        Check.due("no work", false, x.work(2));
        Check.due("addresses", PlugTree.NONE, x.decode(3072));
        x.type(-1, -1, -1, 1000, true);
        int refused = Scenes.settled(x, 0, 3, 3);
        Check.due("REFUSED", PlugTree.REFUSED, x.card(refused, 0));
        Check.thrown("REFUSED", Check.STATE, () -> x.pull(refused));
    }

    private static void leaves() {
        Check.promise(8);
        PlugTree x = Scenes.fragmented();
        Check.thrown("card -1", Check.ARGUMENT, () -> x.leave(-1));
        Check.thrown("card 3", Check.ARGUMENT, () -> x.leave(3));
        Check.thrown("GONE", Check.STATE, () -> x.leave(1));
        Check.due("no request", 0, x.leave(2));
        Check.due("LEAVING", PlugTree.LEAVING, x.card(2, 0));
        Check.due("still in its slot", 102, x.slot(0, 1));
        Check.due("still with its range", 2, x.decode(x.range(2, 0)));
        Check.due("and its power", 2, x.power(0));
        Check.thrown("LEAVING", Check.STATE, () -> x.leave(2));
        x.step();
        Check.due("GONE", PlugTree.GONE, x.card(2, 0));
        Check.due("in no slot", PlugTree.NONE, x.slot(0, 1));
        x.request(0, 1, 1);
        x.request(0, 2, 2);
        x.request(0, 3, 3);
        x.work(0);
        Check.due("those not started", 2, x.leave(0));
        Check.due("the started one is left", 1, x.card(0, 2));
        Check.due("it waits", PlugTree.PENDING, x.result(0));
        Check.due("lost", PlugTree.LOST, x.result(1));
        Check.due("lost", PlugTree.LOST, x.result(2));
        Check.due("not GONE", false, x.step());
        Check.due("work", true, x.work(0));
        Check.due("its result", 2, x.result(0));
        Check.due("GONE", true, x.step());
        PlugTree y = Scenes.fragmented();
        y.request(0, 0, 0);
        y.request(0, 0, 0);
        y.plug(0, 2, 1);
        Check.thrown("NEW", Check.STATE, () -> y.leave(3));
        y.step();
        Check.thrown("PAUSED", Check.STATE, () -> y.leave(0));
        y.step();
        Check.due("all when none is started", 2, y.leave(0));
        Check.due("no work any more", false, y.work(0));
    }

    private static void requests() {
        Check.promise(9);
        PlugTree x = Scenes.fragmented();
        Check.thrown("card -1", Check.ARGUMENT, () -> x.request(-1, 0, 0));
        Check.thrown("card 3", Check.ARGUMENT, () -> x.request(3, 0, 0));
        Check.thrown("op -1", Check.ARGUMENT, () -> x.request(0, -1, 0));
        Check.thrown("GONE and op -1", Check.ARGUMENT, () -> x.request(1, -1, 0));
        Check.thrown("GONE", Check.STATE, () -> x.request(1, 0, 0));
        for (int i = 0; i < 8; i++) {
            Check.due("ticket", i, x.request(0, 1, 0));
        }
        Check.thrown("a ninth", Check.STATE, () -> x.request(0, 0, 0));
        Check.due("tickets go on over all cards", 8, x.request(2, 0, 0));
        x.work(0);
        Check.thrown("a ninth with one started", Check.STATE, () -> x.request(0, 0, 0));
        x.work(0);
        Check.due("after one is finished", 9, x.request(0, 0, 0));
        x.work(0);
        x.plug(0, 2, 1);
        Check.thrown("NEW", Check.STATE, () -> x.request(3, 0, 0));
        x.step();
        Check.due("PAUSED", 10, x.request(2, 0, 0));
        x.pull(3);
        x.leave(2);
        Check.thrown("LEAVING", Check.STATE, () -> x.request(2, 0, 0));
    }

    private static void works() {
        Check.promise(10);
        PlugTree x = Scenes.fragmented();
        Check.thrown("card -1", Check.ARGUMENT, () -> x.work(-1));
        Check.thrown("card 3", Check.ARGUMENT, () -> x.work(3));
        Check.due("no request", false, x.work(0));
        Check.due("GONE", false, x.work(1));
        for (int op = 0; op < 20; op++) {
            x.request(2, op, 0);
            for (int piece = op % 8; piece >= 0; piece--) {
                Check.due("a piece", true, x.work(2));
                Check.due("pieces to be done", piece, x.card(2, 3));
            }
            Check.due("after the last one", false, x.work(2));
        }
        x.request(0, 7, 1);
        x.request(0, 0, 2);
        x.work(0);
        x.plug(0, 2, 1);
        x.step();
        for (int i = 0; i < 7; i++) {
            Check.due("PAUSED with a started one", true, x.work(0));
        }
        Check.due("PAUSED with one that waits", false, x.work(0));
        Check.due("it waits", 1, x.card(0, 2));
        Check.due("NEW", false, x.work(3));
        x.step();
        Check.due("WORKING again", true, x.work(0));
        Check.due("in the order of the tickets", 33, x.result(21));
    }

    private static void results() {
        Check.promise(11);
        PlugTree x = Scenes.fragmented();
        Check.thrown("ticket 0", Check.ARGUMENT, () -> x.result(0));
        Check.thrown("ticket -1", Check.ARGUMENT, () -> x.result(-1));
        x.request(0, 5, 7);
        x.request(0, 8, -1);
        x.request(0, Integer.MAX_VALUE, Integer.MAX_VALUE);
        x.request(2, 0, 3);
        Check.thrown("ticket 4", Check.ARGUMENT, () -> x.result(4));
        Check.due("PENDING", PlugTree.PENDING, x.result(0));
        for (int i = 0; i < 5; i++) {
            x.work(0);
        }
        Check.due("PENDING while it is started", PlugTree.PENDING, x.result(0));
        x.work(0);
        Check.due("x + op", 12, x.result(0));
        Check.due("the next waits", PlugTree.PENDING, x.result(1));
        x.work(0);
        Check.due("31 * 7 - 1 + 8", 224, x.result(1));
        for (int i = 0; i < 8; i++) {
            x.work(0);
        }
        int number = 31 * 216 + Integer.MAX_VALUE;
        Check.due("as ints", number + Integer.MAX_VALUE, x.result(2));
        x.work(2);
        Check.due("each card has its own number", 3, x.result(3));
        x.request(2, 0, -200);
        x.work(2);
        Check.due("below 0", 31 * 3 - 200, x.result(4));
        x.request(2, 0, 0);
        x.pull(2);
        Check.due("LOST", PlugTree.LOST, x.result(5));
        Check.due("finished before", 3, x.result(3));
        Check.due("PENDING is", 1L << 40, PlugTree.PENDING);
        Check.due("LOST is", 1L << 41, PlugTree.LOST);
    }

    private static void cards() {
        Check.promise(12);
        PlugTree x = Scenes.fragmented();
        Check.thrown("card -1", Check.ARGUMENT, () -> x.card(-1, 0));
        Check.thrown("card 3", Check.ARGUMENT, () -> x.card(3, 0));
        Check.thrown("what -1", Check.ARGUMENT, () -> x.card(0, -1));
        Check.thrown("what 4", Check.ARGUMENT, () -> x.card(0, 4));
        Check.due("GONE", 4, x.card(1, 0));
        Check.due("WORKING", 1, x.card(0, 0));
        Check.due("not refused", 0, x.card(0, 1));
        Check.due("not refused but GONE", 0, x.card(1, 1));
        Check.due("no requests", 0, x.card(0, 2));
        x.request(0, 3, 0);
        x.request(0, 3, 0);
        Check.due("not finished", 2, x.card(0, 2));
        Check.due("none started", 0, x.card(0, 3));
        x.work(0);
        Check.due("still not finished", 2, x.card(0, 2));
        Check.due("pieces", 3, x.card(0, 3));
        for (int i = 0; i < 3; i++) {
            x.work(0);
        }
        Check.due("one finished", 1, x.card(0, 2));
        Check.due("no pieces", 0, x.card(0, 3));
        x.leave(0);
        Check.due("LEAVING", 3, x.card(0, 0));
        Check.due("lost ones do not count", 0, x.card(0, 2));
    }

    private static void ranges() {
        Check.promise(13);
        PlugTree x = new PlugTree();
        x.type(-1, 4, 2, 0, true);
        Check.thrown("card 0", Check.ARGUMENT, () -> x.range(0, 0));
        x.plug(0, 0, 0);
        Check.thrown("card -1", Check.ARGUMENT, () -> x.range(-1, 0));
        Check.thrown("k -1", Check.ARGUMENT, () -> x.range(0, -1));
        Check.thrown("k 3", Check.ARGUMENT, () -> x.range(0, 3));
        Check.due("NEW", PlugTree.NONE, x.range(0, 1));
        x.step();
        Check.due("no size", PlugTree.NONE, x.range(0, 0));
        Check.due("the greatest", 0, x.range(0, 1));
        Check.due("the other", 16, x.range(0, 2));
        x.leave(0);
        Check.due("LEAVING", 16, x.range(0, 2));
        x.step();
        Check.due("GONE", PlugTree.NONE, x.range(0, 2));
        PlugTree y = Scenes.fragmented();
        y.plug(0, 2, 1);
        y.step();
        Check.due("PAUSED", 0, y.range(0, 0));
        Check.due("checked", PlugTree.NONE, y.range(3, 0));
    }

    private static void openings() {
        Check.promise(14);
        PlugTree x = new PlugTree();
        x.type(6, -1, -1, 0, true);
        x.bridge(0, 0, 1000);
        Check.thrown("bridge -1", Check.ARGUMENT, () -> x.opening(-1, true));
        Check.thrown("bridge 2", Check.ARGUMENT, () -> x.opening(2, false));
        Check.due("EMPTY from", 0, x.opening(1, false));
        Check.due("EMPTY to", 0, x.opening(1, true));
        Scenes.settled(x, 0, 1, 0);
        Scenes.settled(x, 1, 0, 0);
        Check.due("from", 64, x.opening(1, false));
        Check.due("to", 128, x.opening(1, true));
        x.pull(1);
        Check.due("it stays when the card is GONE, from", 64, x.opening(1, false));
        Check.due("to", 128, x.opening(1, true));
        Check.due("root from", 0, x.opening(0, false));
        Check.due("root to", 4096, x.opening(0, true));
    }

    private static void decodes() {
        Check.promise(15);
        PlugTree x = new PlugTree();
        x.type(4, -1, 5, 0, true);
        x.type(10, 10, 10, 0, true);
        x.bridge(0, 0, 1000);
        Scenes.settled(x, 0, 1, 0);
        Scenes.settled(x, 0, 2, 1);
        Scenes.settled(x, 1, 0, 0);
        Check.due("first", 0, x.decode(0));
        Check.due("last", 0, x.decode(47));
        Check.due("behind it", PlugTree.NONE, x.decode(48));
        Check.due("in the opening", 2, x.decode(64));
        Check.due("last there", 2, x.decode(111));
        Check.due("behind", PlugTree.NONE, x.decode(112));
        Check.due("before the great one", PlugTree.NONE, x.decode(1023));
        Check.due("the great one", 1, x.decode(1024));
        Check.due("its last", 1, x.decode(4095));
        Check.due("4096", PlugTree.NONE, x.decode(4096));
        Check.due("-1", PlugTree.NONE, x.decode(-1));
        Check.due("the least int", PlugTree.NONE, x.decode(Integer.MIN_VALUE));
        Check.due("the greatest int", PlugTree.NONE, x.decode(Integer.MAX_VALUE));
        x.pull(1);
        Check.due("GONE", PlugTree.NONE, x.decode(1024));
        x.plug(0, 2, 0);
        Check.due("NEW", PlugTree.NONE, x.decode(48));
    }

    private static void powers() {
        Check.promise(16);
        PlugTree x = new PlugTree();
        x.type(0, -1, -1, 7, true);
        x.type(0, -1, -1, 20, true);
        x.bridge(0, 0, 100);
        x.bridge(1, 0, 100);
        x.bridge(0, 1, 100);
        Check.thrown("bridge -1", Check.ARGUMENT, () -> x.power(-1));
        Check.thrown("bridge 4", Check.ARGUMENT, () -> x.power(4));
        Scenes.settled(x, 2, 0, 0);
        Scenes.settled(x, 1, 1, 1);
        Scenes.settled(x, 3, 0, 1);
        x.plug(0, 2, 0);
        Check.due("its own", 7, x.power(2));
        Check.due("and below", 27, x.power(1));
        Check.due("beside", 20, x.power(3));
        Check.due("all but the NEW one", 47, x.power(0));
        x.settle();
        Check.due("all", 54, x.power(0));
        x.leave(1);
        Check.due("LEAVING", 27, x.power(1));
        x.step();
        Check.due("GONE", 7, x.power(1));
        PlugTree y = Scenes.fragmented();
        y.plug(0, 2, 1);
        y.step();
        Check.due("PAUSED", 2, y.power(0));
    }

    private static void slots() {
        Check.promise(17);
        PlugTree x = new PlugTree();
        x.type(0, -1, -1, 1000, true);
        x.bridge(0, 3, 1000);
        Check.thrown("bridge -1", Check.ARGUMENT, () -> x.slot(-1, 0));
        Check.thrown("bridge 2", Check.ARGUMENT, () -> x.slot(2, 0));
        Check.thrown("slot -1", Check.ARGUMENT, () -> x.slot(0, -1));
        Check.thrown("slot 4", Check.ARGUMENT, () -> x.slot(0, 4));
        Check.due("a bridge", 1, x.slot(0, 3));
        Check.due("nothing", PlugTree.NONE, x.slot(1, 3));
        x.plug(1, 3, 0);
        Check.due("a NEW card", 100, x.slot(1, 3));
        x.settle();
        Check.due("a WORKING card", 100, x.slot(1, 3));
        x.plug(0, 0, 0);
        Check.due("the second card", 101, x.slot(0, 0));
        x.settle();
        Check.due("a REFUSED card", PlugTree.NONE, x.slot(0, 0));
        x.leave(0);
        Check.due("a LEAVING card", 100, x.slot(1, 3));
        x.settle();
        Check.due("a GONE card", PlugTree.NONE, x.slot(1, 3));
    }

    private static void movedRanges() {
        Check.promise(18);
        PlugTree x = Scenes.fragmented();
        Check.due("at first", 0, x.moved());
        x.plug(0, 2, 1);
        x.step();
        Check.due("not yet", 0, x.moved());
        x.step();
        Check.due("the one at 0 and the one at 1024", 2, x.moved());
        Scenes.settled(x, 0, 3, 0);
        Check.due("REFUSED for ROOM, nothing moved", 2, x.moved());
        // All that is there keeps its place when the packing is the same.
        PlugTree y = new PlugTree();
        y.type(10, -1, -1, 0, true);
        y.bridge(0, 1, 1000);
        y.bridge(1, 0, 1000);
        Scenes.settled(y, 0, 0, 0);
        Scenes.settled(y, 2, 0, 0);
        Check.due("two bridges deep", 1024, y.range(1, 0));
        Check.due("none of those there", 0, y.moved());
        y.type(10, 10, -1, 0, true);
        Scenes.settled(y, 2, 1, 0);
        Check.due("the block of 2048 goes first", 2, y.moved());
        y.pull(0);
        y.pull(2);
        y.type(6, -1, -1, 0, true);
        y.bridge(0, 2, 1000);
        y.bridge(3, 0, 1000);
        Scenes.settled(y, 4, 0, 2);
        Check.due("the last moving counts alone", 0, y.moved());
    }

    private static void packingOrder() {
        Check.promise(5);
        PlugTree x = new PlugTree();
        x.type(6, 7, 6, 0, true);
        x.type(5, 6, -1, 0, true);
        x.bridge(0, 1, 1000);
        x.bridge(1, 2, 1000);
        Scenes.settled(x, 0, 2, 0);
        Scenes.settled(x, 0, 0, 0);
        x.plug(2, 3, 1);
        Check.due("checked and moved", 2, x.settle());
        // The root lays 128 of slot 0, the block of 128 of slot 1, 128 of slot 2, then all of 64.
        Check.due("slot 0, range 1", 0, x.range(1, 1));
        Check.due("slot 1", 128, x.opening(1, false));
        Check.due("slot 1 to", 256, x.opening(1, true));
        Check.due("slot 2, range 1", 256, x.range(0, 1));
        Check.due("slot 0, range 0", 384, x.range(1, 0));
        Check.due("slot 0, range 2", 448, x.range(1, 2));
        Check.due("slot 2, range 0", 512, x.range(0, 0));
        Check.due("slot 2, range 2", 576, x.range(0, 2));
        Check.due("below from", 128, x.opening(2, false));
        Check.due("below to", 256, x.opening(2, true));
        Check.due("below, range 1", 128, x.range(2, 1));
        Check.due("below, range 0", 192, x.range(2, 0));
    }

    private static void packingBlocks() {
        Check.promise(5);
        PlugTree x = new PlugTree();
        x.type(0, -1, -1, 0, true);
        x.type(6, -1, -1, 0, true);
        x.type(-1, -1, -1, 0, true);
        x.bridge(0, 0, 1000);
        x.bridge(0, 1, 1000);
        x.bridge(2, 0, 1000);
        Scenes.settled(x, 1, 0, 1);
        Check.due("opened", 64, x.opening(1, true));
        x.pull(0);
        Scenes.settled(x, 1, 1, 2);
        Scenes.settled(x, 3, 0, 0);
        Check.due("nothing to lay: EMPTY from", 0, x.opening(1, false));
        Check.due("nothing to lay: EMPTY to", 0, x.opening(1, true));
        Check.due("a card without ranges", PlugTree.WORKING, x.card(1, 0));
        Check.due("the least block from", 0, x.opening(3, false));
        Check.due("the least block to", 64, x.opening(3, true));
        Check.due("and above it", 64, x.opening(2, true));
        Scenes.settled(x, 3, 1, 1);
        Check.due("65 need 128", 128, x.opening(3, true));
        Check.due("the greater range first", 0, x.range(3, 0));
        Check.due("then the other", 64, x.range(2, 0));
    }

    /** Beyond its 512 calls an object answers what it likes, but nothing else than the named exceptions comes out. */
    private static void longRunStaysSafe() {
        Check.promise(9);
        PlugTree x = Scenes.fragmented();
        for (int i = 0; i < 3000; i++) {
            int card = i % 2 * 2;
            int word = i;
            onlyNamedExceptions(() -> x.request(card, 0, word));
            onlyNamedExceptions(() -> x.work(card));
            onlyNamedExceptions(() -> x.result(word));
        }
    }

    private static void onlyNamedExceptions(Supplier<Object> call) {
        try {
            call.get();
        } catch (IllegalArgumentException | IllegalStateException e) {
            return;
        } catch (RuntimeException e) {
            Check.say("after many calls " + e + " was thrown");
        }
    }
}
