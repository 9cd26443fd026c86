/** The sentences of "A STEP of the manager" at their edges: power, fitting, growing, a NEIGHBOUR, ROOM, the moving. */
public final class StepEdgesTest {
    private StepEdgesTest() {
    }

    public static void main(String[] args) {
        leavingWithNoRequestStartedIsGone();
        goneFirstThenTheNewOne();
        aStepChangesSomething();
        powerOfItsOwnBridge();
        powerOfEachBridgeUpToTheRoot();
        powerOfBridgesBelowOrBesideIsNothing();
        powerOfThoseThereAlone();
        powerComesFirst();
        refusedForPower();
        refusedForPowerBeforeGrowing();
        fittingTheGreatestFirst();
        fittingIntoAHoleJustAsLarge();
        fittingIntoTheSmallestHole();
        fittingIntoTheFirstOfHolesOfTheSameSize();
        fittingNeedsAPlaceInTheHole();
        fittingMeasuresTheWholeHole();
        fittingAtTheFirstMultiple();
        fittingOneAfterTheOther();
        fittingUpToTheLastAddress();
        fittingBesideOpenings();
        fittingOfACardWithoutRanges();
        fittingAllOrNothing();
        growingBy64();
        growingUpToTheEndOfTheOpeningAbove();
        growingUpToARange();
        growingUpToAnOpening();
        growingKeepsTheBeginning();
        growingFromWhatCardsLeft();
        growingFillsHolesToo();
        growingNotInAnEmptyOpeningAbove();
        openingFromTheBeginningOfTheOneAbove();
        openingBetweenRanges();
        openingUpToTheLastAddress();
        theOpeningStays();
        someCardThereCannotPause();
        aNeighbourThatIsNotThere();
        aNeighbourComesBeforeRoom();
        roomIsUpTo4096();
        roomForBlocks();
        roomForThoseThere();
        allWorkingArePaused();
        checkedWithNoCardThere();
        checkedBeforeThisStep();
        aStartedRequestHoldsItUp();
        allIsMoved();
        pulledWhileChecked();
        pulledWhilePaused();
        settleCounts();
        movedCountsRanges();
        movedLast();
        Check.end();
    }

    private static int refusal(PlugTree x, int bridge, int slot, int type) {
        return x.card(Scenes.settled(x, bridge, slot, type), 1);
    }

    private static int stateOf(PlugTree x, int bridge, int slot, int type) {
        return x.card(Scenes.settled(x, bridge, slot, type), 0);
    }

    private static void checkOpening(String what, PlugTree x, int bridge, int begin, int end) {
        Check.due(what + ", begins", begin, x.opening(bridge, false));
        Check.due(what + ", ends", end, x.opening(bridge, true));
    }

    private static void leavingWithNoRequestStartedIsGone() {
        Check.sentence("First, each card LEAVING that has no request started is GONE");
        PlugTree x = new PlugTree();
        x.type(4, -1, -1, 0, true);
        for (int s = 0; s < 4; s++) {
            Scenes.settled(x, 0, s, 0);
        }
        x.request(1, 0, 0);
        x.request(2, 1, 0);
        x.work(2);
        for (int c = 0; c < 3; c++) {
            x.leave(c);
        }
        Check.due("two at once", true, x.step());
        Check.due("with no request", PlugTree.GONE, x.card(0, 0));
        Check.due("with one that was not started", PlugTree.GONE, x.card(1, 0));
        Check.due("with one that is started", PlugTree.LEAVING, x.card(2, 0));
        Check.due("not LEAVING", PlugTree.WORKING, x.card(3, 0));
        Check.due("still started", false, x.step());
        Check.due("its last piece", true, x.work(2));
        Check.due("LEAVING until the next step", PlugTree.LEAVING, x.card(2, 0));
        Check.due("the next step", true, x.step());
        Check.due("with one that is finished", PlugTree.GONE, x.card(2, 0));
        Check.due("the step after it", false, x.step());
    }

    private static void goneFirstThenTheNewOne() {
        Check.sentence("First, each card LEAVING .. Then, if there is a NEW card");
        PlugTree x = new PlugTree();
        x.type(10, 10, 10, 1000, false);
        x.type(10, 10, -1, 1, true);
        Scenes.settled(x, 0, 0, 0);
        x.leave(0);
        x.plug(0, 1, 1);
        Check.due("in one step", true, x.step());
        Check.due("one is GONE", PlugTree.GONE, x.card(0, 0));
        Check.due("and its power, place and neighbourhood are free", PlugTree.WORKING, x.card(1, 0));
        Check.due("from the beginning", 0, x.range(1, 0));
    }

    private static void aStepChangesSomething() {
        Check.sentence("whether something was changed by it");
        Check.due("nothing there", false, new PlugTree().step());
        Check.due("cards that work and one that is held up LEAVING", false, Scenes.busy().step());
        Check.due("a NEW one is checked", true, Scenes.unchecked().step());
        Check.due("a CHECKED one is held up", false, Scenes.checked().step());
        PlugTree x = Scenes.checked();
        for (int i = 0; i < 5; i++) {
            x.work(2);
        }
        Check.due("one is GONE, a CHECKED one is held up", true, x.step());
        Check.due("GONE", PlugTree.GONE, x.card(2, 0));
        Check.due("PAUSED still", PlugTree.PAUSED, x.card(0, 0));
        Check.due("held up alone", false, x.step());
        for (int i = 0; i < 3; i++) {
            x.work(0);
        }
        Check.due("all is moved", true, x.step());
        Check.due("nothing is left", false, x.step());
        // Also when no range gets another beginning.
        PlugTree y = Scenes.chain();
        y.type(0, -1, -1, 0, true);
        y.plug(4, 0, 0);
        Check.due("checked with no card there", true, y.step());
        Check.due("moved with no card there", true, y.step());
        Check.due("moved()", 0, y.moved());
    }

    private static void powerOfItsOwnBridge() {
        Check.sentence("for some bridge, from its own up .. the power used and its own are more than the limit");
        PlugTree x = new PlugTree();
        x.bridge(0, 0, 10);
        x.type(-1, -1, -1, 10, true);
        x.type(-1, -1, -1, 11, true);
        x.type(-1, -1, -1, 4, true);
        x.type(-1, -1, -1, 6, true);
        x.type(-1, -1, -1, 7, true);
        x.type(-1, -1, -1, 0, true);
        Check.due("11 of 10", PlugTree.POWER, refusal(x, 1, 0, 1));
        Check.due("10 of 10", PlugTree.WORKING, stateOf(x, 1, 0, 0));
        Check.due("0 more", PlugTree.WORKING, stateOf(x, 1, 1, 5));
        x.pull(1);
        Check.due("4 of 10", PlugTree.WORKING, stateOf(x, 1, 0, 2));
        Check.due("4 and 7", PlugTree.POWER, refusal(x, 1, 2, 4));
        Check.due("4 and 6", PlugTree.WORKING, stateOf(x, 1, 2, 3));
        Check.due("all of it", 10, x.power(1));
    }

    private static void powerOfEachBridgeUpToTheRoot() {
        Check.sentence("from its own up to the root");
        for (int tight = 0; tight <= 4; tight++) {
            PlugTree x = new PlugTree();
            for (int b = 1; b <= 4; b++) {
                x.bridge(b - 1, 0, b == tight ? 5 : 1000);
            }
            int limit = tight == 0 ? 1000 : 5;
            x.type(-1, -1, -1, limit - 3, true);
            x.type(-1, -1, -1, 4, true);
            x.type(-1, -1, -1, 3, true);
            Scenes.settled(x, 4, 0, 0);
            Check.due("more than bridge " + tight + " has", PlugTree.POWER, refusal(x, 4, 1, 1));
            Check.due("all that bridge " + tight + " has", PlugTree.WORKING, stateOf(x, 4, 1, 2));
            Check.due("used of bridge " + tight, limit, x.power(tight));
        }
    }

    private static void powerOfBridgesBelowOrBesideIsNothing() {
        Check.sentence("from its own up to the root");
        PlugTree x = new PlugTree();
        x.bridge(0, 0, 100);
        x.bridge(1, 0, 5);
        x.bridge(0, 1, 0);
        x.type(-1, -1, -1, 5, true);
        x.type(-1, -1, -1, 95, true);
        x.type(-1, -1, -1, 900, true);
        Scenes.settled(x, 2, 0, 0);
        Check.due("a bridge below has no power left", PlugTree.WORKING, stateOf(x, 1, 1, 1));
        Check.due("a bridge below and one beside have none", PlugTree.WORKING, stateOf(x, 0, 2, 2));
        Check.due("all of it", 1000, x.power(0));
    }

    private static void powerOfThoseThereAlone() {
        Check.sentence("the power used (of all cards there)");
        PlugTree x = new PlugTree();
        x.type(-1, -1, -1, 600, true);
        Scenes.settled(x, 0, 0, 0);
        Check.due("REFUSED", PlugTree.POWER, refusal(x, 0, 1, 0));
        x.request(0, 1, 0);
        x.work(0);
        x.leave(0);
        Check.due("beside one LEAVING", PlugTree.POWER, refusal(x, 0, 1, 0));
        x.work(0);
        Check.due("one that is GONE at last and those REFUSED do not count", PlugTree.WORKING, stateOf(x, 0, 1, 0));
        x.pull(3);
        Check.due("nor one that is pulled", PlugTree.WORKING, stateOf(x, 0, 2, 0));
        x.pull(4);
        x.plug(0, 0, 0);
        Check.due("one that is NEW uses none", 0, x.power(0));
    }

    private static void powerComesFirst() {
        Check.sentence("REFUSED, for POWER. Otherwise ..");
        PlugTree x = new PlugTree();
        x.type(10, 10, 10, 1, false);
        x.type(10, 10, 10, 1000, true);
        x.type(0, -1, -1, 1000, true);
        Scenes.settled(x, 0, 0, 0);
        Check.due("when it would fit", PlugTree.POWER, refusal(x, 0, 1, 2));
        Check.due("when there is a NEIGHBOUR and no ROOM", PlugTree.POWER, refusal(x, 0, 1, 1));
    }

    private static void refusedForPower() {
        Check.sentence("REFUSED, for POWER");
        PlugTree x = Scenes.chain();
        x.type(3, -1, -1, 1000, true);
        Scenes.settled(x, 4, 0, 0);
        x.plug(4, 1, 0);
        Check.due("the step", true, x.step());
        Check.due("REFUSED", PlugTree.REFUSED, x.card(1, 0));
        Check.due("in no slot", PlugTree.NONE, x.slot(4, 1));
        Check.due("without range", PlugTree.NONE, x.range(1, 0));
        Check.due("the power used", 1000, x.power(4));
        checkOpening("the opening stays", x, 4, 0, 64);
        Check.due("the other works", PlugTree.WORKING, x.card(0, 0));
        Check.due("the next step", false, x.step());
        Check.due("the next one can be plugged", 2, x.plug(4, 1, 0));
    }

    private static void refusedForPowerBeforeGrowing() {
        Check.sentence("REFUSED, for POWER. Otherwise .. GROWING");
        PlugTree x = new PlugTree();
        x.type(6, -1, -1, 1, true);
        x.type(6, -1, -1, 1000, true);
        x.bridge(0, 0, 1000);
        x.bridge(0, 1, 1000);
        Scenes.settled(x, 1, 0, 0);
        Check.due("in an opening that could grow", PlugTree.POWER, refusal(x, 1, 1, 1));
        checkOpening("it stays", x, 1, 0, 64);
        Check.due("in an EMPTY one", PlugTree.POWER, refusal(x, 2, 0, 1));
        checkOpening("it stays", x, 2, 0, 0);
        Check.due("the next one has that place", 64, x.range(Scenes.settled(x, 0, 2, 0), 0));
    }

    private static void fittingTheGreatestFirst() {
        Check.sentence("its ranges, the greatest first (of the same size by their numbers)");
        int[][] exponents = {{2, 10, 2}, {4, 4, 5}, {4, 5, 4}, {5, 4, 5}, {4, 5, 5}, {3, 3, 3}, {0, -1, 1}};
        int[][] begins = {{1024, 0, 1028}, {32, 48, 0}, {32, 0, 48}, {0, 64, 32}, {64, 0, 32}, {0, 8, 16}, {2, -1, 0}};
        for (int i = 0; i < exponents.length; i++) {
            PlugTree x = new PlugTree();
            x.type(exponents[i][0], exponents[i][1], exponents[i][2], 0, true);
            Scenes.settled(x, 0, 0, 0);
            for (int k = 0; k < 3; k++) {
                Check.due("type " + i + ", range " + k, begins[i][k], x.range(0, k));
            }
        }
    }

    private static void fittingIntoAHoleJustAsLarge() {
        Check.sentence("into the smallest HOLE that has a place for it");
        PlugTree x = new PlugTree();
        x.type(9, -1, -1, 0, true);
        x.type(8, -1, -1, 0, true);
        Scenes.settled(x, 0, 0, 0);
        Scenes.settled(x, 0, 1, 0);
        Scenes.settled(x, 0, 2, 0);
        x.pull(1);
        Check.due("a hole of 512 for 512", 512, x.range(Scenes.settled(x, 0, 1, 0), 0));
        x.pull(1 + 2);
        x.pull(0);
        Check.due("a hole of 1024, from 0 to another card", 0, x.range(Scenes.settled(x, 0, 0, 1), 0));
        Check.due("768 are left of it", 512, x.range(Scenes.settled(x, 0, 1, 0), 0));
        Check.due("and 256", 256, x.range(Scenes.settled(x, 0, 3, 1), 0));
    }

    private static void fittingIntoTheSmallestHole() {
        Check.sentence("into the smallest HOLE that has a place for it");
        PlugTree x = new PlugTree();
        x.type(10, -1, -1, 0, true);
        x.type(9, -1, -1, 0, true);
        x.type(8, -1, -1, 0, true);
        x.type(9, 8, -1, 0, true);
        Scenes.settled(x, 0, 0, 0);
        Scenes.settled(x, 0, 1, 0);
        Scenes.settled(x, 0, 2, 1);
        Scenes.settled(x, 0, 3, 1);
        x.pull(0);
        x.pull(2);
        // Holes: 0 to 1024, 2048 to 2560, 3072 to 4096.
        Check.due("not the first one, but the smallest", 2048, x.range(Scenes.settled(x, 0, 0, 2), 0));
        x.pull(4);
        int both = Scenes.settled(x, 0, 0, 3);
        Check.due("the greater range fills it", 2048, x.range(both, 0));
        Check.due("the other goes into the first of the two left", 0, x.range(both, 1));
    }

    private static void fittingIntoTheFirstOfHolesOfTheSameSize() {
        Check.sentence("of the same size the one that begins first");
        PlugTree x = new PlugTree();
        x.type(10, -1, -1, 0, true);
        x.type(3, 3, 3, 0, true);
        for (int s = 0; s < 4; s++) {
            Scenes.settled(x, 0, s, 0);
        }
        x.pull(3);
        x.pull(1);
        // Holes of 1024 at 1024 and 3072.
        int small = Scenes.settled(x, 0, 1, 1);
        Check.due("the first range", 1024, x.range(small, 0));
        Check.due("the second, into what is left of that hole", 1032, x.range(small, 1));
        Check.due("the third", 1040, x.range(small, 2));
    }

    private static void fittingNeedsAPlaceInTheHole() {
        Check.sentence("the smallest HOLE that has a place for it");
        PlugTree x = new PlugTree();
        x.type(7, -1, -1, 0, true);
        x.type(7, 7, -1, 0, true);
        x.type(8, -1, -1, 0, true);
        x.type(8, 7, -1, 0, true);
        x.type(10, 10, 10, 0, true);
        Scenes.settled(x, 0, 0, 0);
        Scenes.settled(x, 0, 1, 1);
        Scenes.settled(x, 0, 2, 3);
        Check.due("128 behind the others", 384, x.range(2, 1));
        Scenes.settled(x, 0, 3, 4);
        x.pull(1);
        // Holes of 256 at 128 and at 768: the first has no multiple of 256 with 256 addresses.
        Check.due("256 in the hole that has a place", 768, x.range(Scenes.settled(x, 0, 1, 2), 0));
        x.pull(4);
        Check.due("128 in the first one", 128, x.range(Scenes.settled(x, 0, 1, 0), 0));
    }

    private static void fittingMeasuresTheWholeHole() {
        Check.sentence("into the smallest HOLE (not into that with the least behind its place)");
        PlugTree x = new PlugTree();
        x.type(0, -1, -1, 0, true);
        x.type(1, 0, -1, 0, true);
        x.type(2, -1, -1, 0, true);
        x.type(1, -1, -1, 0, true);
        x.type(2, 1, -1, 0, true);
        for (int t = 0; t < 4; t++) {
            Scenes.settled(x, 0, t, t);
        }
        x.pull(2);
        Scenes.settled(x, 0, 2, 4);
        x.pull(1);
        x.pull(3);
        // Holes: 1 to 4, with a place for 2 addresses at its end; 8 to 10; from 12 on.
        int first = Scenes.settled(x, 0, 1, 3);
        Check.due("2 addresses in the hole of 2", 8, x.range(first, 0));
        Check.due("2 more in the hole of 3", 2, x.range(Scenes.settled(x, 0, 3, 3), 0));
        x.pull(first);
        Check.due("one in what is left of that", 1, x.range(Scenes.settled(x, 0, 1, 0), 0));
    }

    private static void fittingAtTheFirstMultiple() {
        Check.sentence("there at the first multiple of its size");
        for (int e = 0; e <= 10; e++) {
            PlugTree x = new PlugTree();
            x.type(0, -1, -1, 0, true);
            x.type(e, -1, -1, 0, true);
            Scenes.settled(x, 0, 0, 0);
            Check.due("2 to " + e + " behind one address", 1 << e, x.range(Scenes.settled(x, 0, 1, 1), 0));
        }
    }

    private static void fittingOneAfterTheOther() {
        Check.sentence("are laid one after the other");
        PlugTree x = new PlugTree();
        x.type(10, 10, 9, 0, true);
        x.type(9, 8, 8, 0, true);
        x.type(9, 9, -1, 0, true);
        Scenes.settled(x, 0, 0, 0);
        int next = Scenes.settled(x, 0, 1, 1);
        Check.due("512 behind 2560", 2560, x.range(next, 0));
        Check.due("256 behind that", 3072, x.range(next, 1));
        Check.due("256 behind that", 3328, x.range(next, 2));
        x.pull(0);
        // Holes: 0 to 2560 and 3584 to 4096; the second takes one range, and then the first the other.
        int last = Scenes.settled(x, 0, 2, 2);
        Check.due("the smallest hole", 3584, x.range(last, 0));
        Check.due("which is then full", 0, x.range(last, 1));
    }

    private static void fittingUpToTheLastAddress() {
        Check.sentence("Holes are the longest stretches of addresses of the opening");
        PlugTree x = new PlugTree();
        x.type(10, 10, 10, 0, true);
        x.type(9, 8, 7, 0, true);
        x.type(6, 5, 4, 0, true);
        x.type(3, 2, 3, 0, true);
        x.type(3, 2, 2, 0, true);
        for (int t = 0; t < 3; t++) {
            Scenes.settled(x, 0, t, t);
        }
        Check.due("16 are left", 4064, x.range(2, 2));
        Check.due("20 have no place", PlugTree.ROOM, refusal(x, 0, 3, 3));
        int last = Scenes.settled(x, 0, 3, 4);
        Check.due("16 have", PlugTree.WORKING, x.card(last, 0));
        Check.due("the last one's place", 4092, x.range(last, 2));
        Check.due("the last address", last, x.decode(4095));
        Check.due("the one before", last, x.decode(4080));
        Check.due("the one before that", 2, x.decode(4079));
    }

    private static void fittingBesideOpenings() {
        Check.sentence("that lie in no range and no opening in it");
        PlugTree x = new PlugTree();
        x.type(0, -1, -1, 0, true);
        x.type(5, -1, -1, 0, true);
        x.bridge(0, 0, 1000);
        Scenes.settled(x, 1, 0, 0);
        Check.due("not in the opening of a bridge in it", 64, x.range(Scenes.settled(x, 0, 1, 0), 0));
        Check.due("in its own opening", 32, x.range(Scenes.settled(x, 1, 1, 1), 0));
        x.pull(0);
        x.pull(2);
        Check.due("nor in one whose cards are GONE", 65, x.range(Scenes.settled(x, 0, 2, 0), 0));
        Check.due("there is that of its own bridge", 0, x.range(Scenes.settled(x, 1, 2, 1), 0));
        checkOpening("which stays", x, 1, 0, 64);
        // The EMPTY opening of another bridge takes no address and parts no hole.
        PlugTree y = new PlugTree();
        y.type(10, 10, 10, 0, true);
        y.type(10, -1, -1, 0, true);
        y.bridge(0, 0, 1000);
        Scenes.settled(y, 0, 1, 0);
        Check.due("all 4096", 3072, y.range(Scenes.settled(y, 0, 2, 1), 0));
    }

    private static void fittingOfACardWithoutRanges() {
        Check.sentence("If all have a place, it is WORKING, with them");
        PlugTree x = new PlugTree();
        x.type(10, 10, 10, 0, false);
        x.type(10, -1, -1, 0, false);
        x.type(-1, -1, -1, 0, true);
        x.bridge(0, 3, 1000);
        x.bridge(1, 0, 1000);
        Scenes.settled(x, 0, 0, 0);
        Scenes.settled(x, 0, 1, 1);
        x.plug(0, 2, 2);
        Check.due("in one step", true, x.step());
        Check.due("without ranges in a full opening", PlugTree.WORKING, x.card(2, 0));
        Check.due("and in an empty one", PlugTree.WORKING, stateOf(x, 1, 1, 2));
        Check.due("and below an empty one", PlugTree.WORKING, stateOf(x, 2, 1, 2));
        checkOpening("which stays", x, 1, 0, 0);
        checkOpening("which stays", x, 2, 0, 0);
    }

    private static void fittingAllOrNothing() {
        Check.sentence("If all have a place");
        PlugTree x = Scenes.fragmented();
        x.plug(0, 2, 1);
        x.step();
        Check.due("two of three have", PlugTree.NEW, x.card(3, 0));
        for (int k = 0; k < 3; k++) {
            Check.due("no range", PlugTree.NONE, x.range(3, k));
        }
        Check.due("no address", PlugTree.NONE, x.decode(2048));
        x.pull(3);
        x.type(10, 10, 8, 0, false);
        Check.due("three of three have, the last one by what is left", 512, x.range(Scenes.settled(x, 0, 2, 3), 2));
    }

    private static void growingBy64() {
        Check.sentence("the end of its opening goes up by 64 addresses at a time .. until fitting goes");
        PlugTree x = new PlugTree();
        x.type(6, -1, -1, 0, true);
        x.type(0, -1, -1, 0, true);
        x.type(6, 0, -1, 0, true);
        x.type(8, -1, -1, 0, true);
        x.bridge(0, 0, 1000);
        Scenes.settled(x, 1, 0, 0);
        checkOpening("64", x, 1, 0, 64);
        Scenes.settled(x, 1, 1, 1);
        checkOpening("and one", x, 1, 0, 128);
        Check.due("its place", 64, x.range(1, 0));
        Scenes.settled(x, 1, 2, 2);
        checkOpening("and 65, of which one has a place", x, 1, 0, 192);
        Check.due("64", 128, x.range(2, 0));
        Check.due("one", 65, x.range(2, 1));
        Scenes.settled(x, 1, 3, 3);
        checkOpening("and 256", x, 1, 0, 512);
        Check.due("at a multiple of 256", 256, x.range(3, 0));
        Check.due("all at once, none has moved", 0, x.moved());
    }

    private static void growingUpToTheEndOfTheOpeningAbove() {
        Check.sentence("through addresses of the opening above");
        PlugTree x = new PlugTree();
        x.type(10, 10, 10, 0, true);
        x.type(10, -1, -1, 0, true);
        x.type(6, -1, -1, 0, true);
        x.bridge(0, 0, 1000);
        Scenes.settled(x, 1, 0, 0);
        checkOpening("3072", x, 1, 0, 3072);
        Scenes.settled(x, 1, 1, 1);
        checkOpening("up to the root's end", x, 1, 0, 4096);
        Check.due("no further", PlugTree.ROOM, refusal(x, 1, 2, 2));
        checkOpening("it stays", x, 1, 0, 4096);
        // Two bridges deep: no further than the opening above, though the root has addresses.
        PlugTree y = new PlugTree();
        y.type(7, -1, -1, 0, false);
        y.type(6, -1, -1, 0, false);
        y.type(0, -1, -1, 0, false);
        y.bridge(0, 0, 1000);
        y.bridge(1, 0, 1000);
        Scenes.settled(y, 1, 1, 0);
        y.pull(0);
        Scenes.settled(y, 2, 0, 1);
        checkOpening("half of the one above", y, 2, 0, 64);
        Scenes.settled(y, 2, 1, 1);
        checkOpening("all of the one above", y, 2, 0, 128);
        Check.due("no further", PlugTree.NEIGHBOUR, refusal(y, 2, 2, 2));
        checkOpening("it stays", y, 2, 0, 128);
        checkOpening("and that above", y, 1, 0, 128);
    }

    private static void growingUpToARange() {
        Check.sentence("that are in no range .. there");
        PlugTree x = new PlugTree();
        x.type(6, -1, -1, 0, false);
        x.type(0, -1, -1, 0, false);
        x.bridge(0, 0, 1000);
        Scenes.settled(x, 1, 0, 0);
        Scenes.settled(x, 0, 1, 0);
        Scenes.settled(x, 0, 2, 1);
        Check.due("one address of the root's", 128, x.range(2, 0));
        Check.due("a range of 64 just behind the opening", PlugTree.NEIGHBOUR, refusal(x, 1, 1, 1));
        checkOpening("it stays", x, 1, 0, 64);
        x.pull(1);
        Check.due("up to the one address", PlugTree.WORKING, stateOf(x, 1, 1, 0));
        checkOpening("it has grown", x, 1, 0, 128);
        Check.due("no further", PlugTree.NEIGHBOUR, refusal(x, 1, 2, 1));
        checkOpening("it stays", x, 1, 0, 128);
        x.pull(2);
        Check.due("when that is GONE", PlugTree.WORKING, stateOf(x, 1, 2, 1));
        checkOpening("it has grown", x, 1, 0, 192);
        // The last of the 64 addresses is taken.
        PlugTree y = new PlugTree();
        y.type(6, -1, -1, 0, false);
        y.type(5, 4, 3, 0, false);
        y.type(2, 1, 0, 0, false);
        y.type(0, -1, -1, 0, false);
        y.bridge(0, 0, 1000);
        Scenes.settled(y, 1, 0, 0);
        Scenes.settled(y, 0, 1, 1);
        Scenes.settled(y, 0, 2, 2);
        Scenes.settled(y, 0, 3, 3);
        Check.due("the last of the next 64", 127, y.range(3, 0));
        y.pull(1);
        y.pull(2);
        Check.due("no growing through it", PlugTree.NEIGHBOUR, refusal(y, 1, 1, 3));
        checkOpening("it stays", y, 1, 0, 64);
    }

    private static void growingUpToAnOpening() {
        Check.sentence("and no other opening there");
        PlugTree x = new PlugTree();
        x.type(6, -1, -1, 0, false);
        x.bridge(0, 0, 1000);
        x.bridge(0, 1, 1000);
        Scenes.settled(x, 1, 0, 0);
        Scenes.settled(x, 0, 2, 0);
        Scenes.settled(x, 2, 0, 0);
        checkOpening("the other", x, 2, 128, 192);
        x.pull(1);
        Check.due("up to the other", PlugTree.WORKING, stateOf(x, 1, 1, 0));
        checkOpening("it has grown", x, 1, 0, 128);
        Check.due("no further", PlugTree.NEIGHBOUR, refusal(x, 1, 2, 0));
        x.pull(2);
        Check.due("nor when the other's card is GONE", PlugTree.NEIGHBOUR, refusal(x, 1, 2, 0));
        checkOpening("it stays", x, 1, 0, 128);
        checkOpening("the other has all above", x, 2, 128, 192);
        Check.due("which grows through what is free", PlugTree.WORKING, stateOf(x, 2, 1, 0));
        checkOpening("it had a hole", x, 2, 128, 192);
        Check.due("64 more", PlugTree.WORKING, stateOf(x, 2, 2, 0));
        checkOpening("it has grown", x, 2, 128, 256);
    }

    private static void growingKeepsTheBeginning() {
        Check.sentence("the end of its opening goes up (the beginnings are tried for an empty one alone)");
        PlugTree x = new PlugTree();
        x.type(6, -1, -1, 0, false);
        x.type(7, -1, -1, 0, false);
        x.bridge(0, 0, 1000);
        Scenes.settled(x, 0, 1, 0);
        Scenes.settled(x, 1, 0, 0);
        Scenes.settled(x, 0, 2, 0);
        x.pull(0);
        x.pull(1);
        checkOpening("without a card", x, 1, 64, 128);
        Check.due("not down, and not to another place", PlugTree.NEIGHBOUR, refusal(x, 1, 0, 1));
        checkOpening("it stays", x, 1, 64, 128);
        x.pull(2);
        Check.due("up", PlugTree.WORKING, stateOf(x, 1, 0, 1));
        checkOpening("it has grown", x, 1, 64, 256);
    }

    private static void growingFromWhatCardsLeft() {
        Check.sentence("the end of its opening goes up .. until fitting goes (in the whole opening)");
        PlugTree x = new PlugTree();
        x.type(6, -1, -1, 0, true);
        x.type(7, -1, -1, 0, true);
        x.bridge(0, 0, 1000);
        Scenes.settled(x, 1, 0, 0);
        x.leave(0);
        Check.due("GONE", true, x.step());
        checkOpening("when its only card has left it stays", x, 1, 0, 64);
        Scenes.settled(x, 1, 1, 1);
        checkOpening("128 lie in the old 64 and the new", x, 1, 0, 128);
        Check.due("their beginning", 0, x.range(1, 0));
        x.pull(1);
        checkOpening("when its only card is pulled it stays", x, 1, 0, 128);
    }

    private static void growingFillsHolesToo() {
        Check.sentence("until fitting goes");
        PlugTree x = new PlugTree();
        x.type(0, -1, -1, 0, true);
        x.type(6, 5, -1, 0, true);
        x.bridge(0, 0, 1000);
        Scenes.settled(x, 1, 0, 0);
        Scenes.settled(x, 1, 1, 1);
        checkOpening("it has grown by 64 alone", x, 1, 0, 128);
        Check.due("the greater range", 64, x.range(1, 0));
        Check.due("the other in the smallest hole", 32, x.range(1, 1));
    }

    private static void growingNotInAnEmptyOpeningAbove() {
        Check.sentence("through addresses of the opening above");
        PlugTree x = Scenes.chain();
        x.type(0, -1, -1, 0, true);
        x.plug(2, 1, 0);
        Check.due("checked", true, x.step());
        Check.due("not WORKING at once", PlugTree.NEW, x.card(0, 0));
        checkOpening("it stays", x, 2, 0, 0);
        checkOpening("that above stays", x, 1, 0, 0);
        x.step();
        checkOpening("moved", x, 2, 0, 64);
        checkOpening("that above", x, 1, 0, 64);
        checkOpening("that below", x, 3, 0, 0);
    }

    private static void openingFromTheBeginningOfTheOneAbove() {
        Check.sentence("the beginnings, multiples of 64, are tried from that of the opening above on upwards");
        PlugTree x = new PlugTree();
        x.type(6, -1, -1, 0, true);
        x.type(8, -1, -1, 0, true);
        x.bridge(0, 0, 1000);
        x.bridge(1, 0, 1000);
        Scenes.settled(x, 0, 1, 0);
        Scenes.settled(x, 1, 1, 1);
        checkOpening("above", x, 1, 64, 512);
        x.pull(1);
        Scenes.settled(x, 2, 0, 0);
        checkOpening("from its beginning", x, 2, 64, 128);
        x.bridge(1, 1, 1000);
        Scenes.settled(x, 3, 0, 1);
        checkOpening("the first that goes", x, 3, 128, 512);
        Check.due("its range", 256, x.range(3, 0));
    }

    private static void openingBetweenRanges() {
        Check.sentence("and from each the end goes up so");
        PlugTree x = new PlugTree();
        x.type(6, -1, -1, 0, false);
        x.type(6, 0, -1, 0, false);
        x.bridge(0, 3, 1000);
        for (int s = 0; s < 3; s++) {
            Scenes.settled(x, 0, s, 0);
        }
        x.pull(1);
        // 64 are free from 64 on, and all from 192 on.
        x.plug(1, 0, 1);
        x.step();
        checkOpening("65 do not go between", x, 1, 192, 320);
        PlugTree y = new PlugTree();
        y.type(6, -1, -1, 0, false);
        y.bridge(0, 3, 1000);
        for (int s = 0; s < 3; s++) {
            Scenes.settled(y, 0, s, 0);
        }
        y.pull(1);
        Scenes.settled(y, 1, 0, 0);
        checkOpening("64 do", y, 1, 64, 128);
        // One address in the middle takes its whole 64 from an opening.
        PlugTree z = new PlugTree();
        z.type(5, -1, -1, 0, false);
        z.type(0, -1, -1, 0, false);
        z.bridge(0, 3, 1000);
        Scenes.settled(z, 0, 0, 0);
        Scenes.settled(z, 0, 1, 1);
        z.pull(0);
        Scenes.settled(z, 1, 0, 1);
        Check.due("one address at 32", 1, z.decode(32));
        checkOpening("behind it", z, 1, 64, 128);
    }

    private static void openingUpToTheLastAddress() {
        Check.sentence("on upwards");
        for (int e = 0; e <= 6; e += 6) {
            PlugTree x = new PlugTree();
            x.type(10, 10, 10, 0, true);
            x.type(9, 8, 7, 0, true);
            x.type(6, -1, -1, 0, true);
            x.type(6, 0, -1, 0, true);
            x.type(e, -1, -1, 0, true);
            x.bridge(0, 3, 1000);
            for (int t = 0; t < 3; t++) {
                Scenes.settled(x, 0, t, t);
            }
            Check.due("65 where 64 are left", PlugTree.ROOM, refusal(x, 1, 0, 3));
            checkOpening("it stays", x, 1, 0, 0);
            Check.due("2 to " + e, PlugTree.WORKING, stateOf(x, 1, 0, 4));
            checkOpening("the last 64", x, 1, 4032, 4096);
            Check.due("its range", 4032, x.range(4, 0));
        }
    }

    private static void theOpeningStays() {
        Check.sentence("If nothing comes of it the opening stays");
        PlugTree x = new PlugTree();
        x.type(10, 10, 10, 0, false);
        x.type(6, -1, -1, 0, false);
        x.bridge(0, 0, 1000);
        x.bridge(0, 1, 1000);
        Scenes.settled(x, 0, 2, 0);
        Scenes.settled(x, 1, 0, 1);
        Check.due("an EMPTY one", PlugTree.NEIGHBOUR, refusal(x, 2, 0, 0));
        checkOpening("an EMPTY one", x, 2, 0, 0);
        Check.due("one that is not EMPTY", PlugTree.NEIGHBOUR, refusal(x, 1, 1, 0));
        checkOpening("one that is not EMPTY", x, 1, 3072, 3136);
        // Also when the card is CHECKED.
        PlugTree y = new PlugTree();
        y.type(6, -1, -1, 0, true);
        y.bridge(0, 0, 1000);
        y.bridge(0, 1, 1000);
        Scenes.settled(y, 1, 0, 0);
        Scenes.settled(y, 2, 0, 0);
        y.plug(1, 1, 0);
        y.step();
        checkOpening("while it is CHECKED", y, 1, 0, 64);
        checkOpening("the other one too", y, 2, 64, 128);
        y.pull(2);
        checkOpening("when that one is pulled", y, 1, 0, 64);
    }

    private static void someCardThereCannotPause() {
        Check.sentence("when some card there cannot pause: REFUSED, for a NEIGHBOUR");
        PlugTree x = Scenes.fragmented();
        x.type(-1, -1, -1, 0, false);
        x.bridge(0, 3, 1000);
        x.bridge(1, 3, 1000);
        Scenes.settled(x, 2, 3, 3);
        x.plug(0, 2, 1);
        Check.due("the step", true, x.step());
        Check.due("one far away that has no range", PlugTree.REFUSED, x.card(4, 0));
        Check.due("for a NEIGHBOUR", PlugTree.NEIGHBOUR, x.card(4, 1));
        Check.due("in no slot", PlugTree.NONE, x.slot(0, 2));
        Check.due("the others work", PlugTree.WORKING, x.card(0, 0));
        Check.due("no power of it", 2, x.power(0));
        Check.due("nothing is moved", 1024, x.range(2, 0));
        x.request(3, 1, 0);
        x.work(3);
        x.leave(3);
        Check.due("one that is LEAVING", PlugTree.NEIGHBOUR, refusal(x, 0, 2, 1));
        Check.due("which stays", PlugTree.LEAVING, x.card(3, 0));
    }

    private static void aNeighbourThatIsNotThere() {
        Check.sentence("when some card there cannot pause");
        PlugTree x = Scenes.fragmented();
        x.type(-1, -1, -1, 0, false);
        x.type(-1, -1, -1, 1000, false);
        Scenes.settled(x, 0, 2, 3);
        x.pull(3);
        Scenes.settled(x, 0, 2, 3);
        x.leave(4);
        x.settle();
        Check.due("REFUSED", PlugTree.POWER, refusal(x, 0, 2, 4));
        x.plug(0, 2, 2);
        Check.due("the step", true, x.step());
        Check.due("not those GONE or REFUSED, nor the NEW one itself", PlugTree.PAUSED, x.card(0, 0));
        Check.due("moved", true, x.step());
        Check.due("it is there now", PlugTree.WORKING, x.card(6, 0));
        Check.due("and is a NEIGHBOUR to the next", PlugTree.NEIGHBOUR, refusal(x, 0, 3, 0));
        // It does not matter to one that fits, or for which an opening grows.
        PlugTree y = new PlugTree();
        y.type(6, -1, -1, 0, false);
        y.bridge(0, 0, 1000);
        Check.due("into an EMPTY opening", PlugTree.WORKING, stateOf(y, 1, 0, 0));
        Check.due("growing", PlugTree.WORKING, stateOf(y, 1, 1, 0));
        Check.due("fitting", PlugTree.WORKING, stateOf(y, 0, 1, 0));
    }

    private static void aNeighbourComesBeforeRoom() {
        Check.sentence("for a NEIGHBOUR. Otherwise, when PACKING .. needs more than 4096");
        PlugTree x = new PlugTree();
        x.type(10, 10, 10, 0, false);
        x.type(10, 10, 10, 0, true);
        Scenes.settled(x, 0, 0, 0);
        Check.due("neither", PlugTree.NEIGHBOUR, refusal(x, 0, 1, 1));
        PlugTree y = new PlugTree();
        y.type(10, 10, 10, 0, false);
        y.type(10, 10, 10, 0, true);
        Scenes.settled(y, 0, 0, 1);
        Check.due("the new one alone cannot pause", PlugTree.ROOM, refusal(y, 0, 1, 0));
    }

    private static void roomIsUpTo4096() {
        Check.sentence("when PACKING of all cards there and it needs more than 4096: REFUSED, for ROOM");
        PlugTree x = Scenes.fragmented();
        x.type(0, -1, -1, 0, true);
        x.type(-1, -1, -1, 0, true);
        Scenes.settled(x, 0, 3, 3);
        x.plug(0, 2, 1);
        Check.due("the step", true, x.step());
        Check.due("4097", PlugTree.REFUSED, x.card(4, 0));
        Check.due("for ROOM", PlugTree.ROOM, x.card(4, 1));
        Check.due("in no slot", PlugTree.NONE, x.slot(0, 2));
        Check.due("the others work", PlugTree.WORKING, x.card(0, 0));
        Check.due("nothing is moved", 1024, x.range(2, 0));
        x.pull(3);
        x.plug(0, 2, 1);
        x.step();
        Check.due("4096", PlugTree.NEW, x.card(5, 0));
        Check.due("the others pause", PlugTree.PAUSED, x.card(0, 0));
        x.step();
        Check.due("the last address", 2, x.decode(4095));
        Check.due("none is free but for one without ranges", PlugTree.WORKING, stateOf(x, 0, 3, 4));
        x.pull(6);
        Check.due("none is free", PlugTree.ROOM, refusal(x, 0, 3, 3));
    }

    private static void roomForBlocks() {
        Check.sentence("and the BLOCKS of bridges in them .. What the root lays needs so many addresses");
        PlugTree x = new PlugTree();
        x.type(10, 10, 10, 0, true);
        x.type(9, 8, 7, 0, true);
        x.type(7, 0, -1, 0, true);
        x.type(6, 6, -1, 0, true);
        x.type(0, -1, -1, 0, true);
        x.bridge(0, 2, 1000);
        x.bridge(1, 0, 1000);
        Scenes.settled(x, 0, 0, 0);
        Scenes.settled(x, 0, 1, 1);
        Check.due("129 need a block of 256, and 128 are free", PlugTree.ROOM, refusal(x, 2, 0, 2));
        checkOpening("it stays", x, 1, 0, 0);
        Check.due("128 need one of 128", PlugTree.WORKING, stateOf(x, 2, 0, 3));
        checkOpening("by moving", x, 2, 3968, 4096);
        checkOpening("with the one above", x, 1, 3968, 4096);
        Check.due("one more address", PlugTree.ROOM, refusal(x, 2, 1, 4));
        Check.due("one more in the root", PlugTree.ROOM, refusal(x, 0, 3, 4));
    }

    private static void roomForThoseThere() {
        Check.sentence("PACKING of all cards there and it");
        PlugTree x = Scenes.fragmented();
        x.type(0, -1, -1, 0, true);
        Scenes.settled(x, 0, 3, 3);
        x.request(3, 1, 0);
        x.work(3);
        x.leave(3);
        Check.due("one that is LEAVING takes its room", PlugTree.ROOM, refusal(x, 0, 2, 1));
        x.work(3);
        x.plug(0, 2, 1);
        x.step();
        Check.due("GONE in the same step", PlugTree.GONE, x.card(3, 0));
        Check.due("so that there is room", PlugTree.PAUSED, x.card(0, 0));
    }

    private static void allWorkingArePaused() {
        Check.sentence("Otherwise all WORKING cards are PAUSED, and it is CHECKED");
        PlugTree x = Scenes.fragmented();
        x.type(-1, -1, -1, 0, true);
        x.bridge(0, 3, 1000);
        for (int s = 0; s < 4; s++) {
            Scenes.settled(x, 1, s, 3);
        }
        x.request(6, 2, 0);
        x.work(6);
        x.leave(6);
        x.plug(0, 2, 1);
        Check.due("the step", true, x.step());
        int[] due = {PlugTree.PAUSED, PlugTree.GONE, PlugTree.PAUSED, PlugTree.PAUSED, PlugTree.PAUSED, PlugTree.PAUSED,
            PlugTree.LEAVING, PlugTree.NEW};
        for (int c = 0; c < due.length; c++) {
            Check.due("card " + c, due[c], x.card(c, 0));
        }
        Check.due("ranges stay", 1024, x.range(2, 0));
        Check.due("powers stay", 2, x.power(0));
        Check.due("it stays in its slot", 107, x.slot(0, 2));
        Check.due("so do those PAUSED", 100, x.slot(0, 0));
        Check.due("and the one that is LEAVING", 106, x.slot(1, 3));
    }

    private static void checkedWithNoCardThere() {
        Check.sentence("all WORKING cards are PAUSED (there may be none)");
        PlugTree x = Scenes.chain();
        x.type(10, 10, 10, 0, false);
        x.plug(4, 3, 0);
        Check.due("the step", true, x.step());
        Check.due("NEW", PlugTree.NEW, x.card(0, 0));
        Check.due("moved", true, x.step());
        Check.due("WORKING", PlugTree.WORKING, x.card(0, 0));
        for (int b = 1; b <= 4; b++) {
            checkOpening("bridge " + b, x, b, 0, 4096);
        }
        Check.due("no card was there", 0, x.moved());
    }

    private static void checkedBeforeThisStep() {
        Check.sentence("If it is CHECKED (before this step)");
        PlugTree x = Scenes.fragmented();
        x.plug(0, 2, 1);
        x.step();
        Check.due("not moved in the same step", PlugTree.NEW, x.card(3, 0));
        Check.due("the others are PAUSED", PlugTree.PAUSED, x.card(2, 0));
        Check.due("at their places", 1024, x.range(2, 0));
        Check.due("moved()", 0, x.moved());
        x.step();
        Check.due("in the next", PlugTree.WORKING, x.card(3, 0));
    }

    private static void aStartedRequestHoldsItUp() {
        Check.sentence("when some card there has a request started, nothing");
        PlugTree x = Scenes.fragmented();
        x.request(0, 0, 0);
        x.request(2, 2, 0);
        x.request(2, 0, 0);
        x.work(2);
        x.plug(0, 2, 1);
        x.step();
        for (int piece = 2; piece > 0; piece--) {
            Check.due("with pieces to be done", false, x.step());
            Check.due("NEW", PlugTree.NEW, x.card(3, 0));
            Check.due("PAUSED", PlugTree.PAUSED, x.card(2, 0));
            Check.due("a piece", true, x.work(2));
        }
        Check.due("PAUSED until the next step", PlugTree.PAUSED, x.card(2, 0));
        Check.due("those that wait hold nothing up", true, x.step());
        Check.due("moved", PlugTree.WORKING, x.card(3, 0));
        Check.due("they still wait", 1, x.card(0, 2));
        Check.due("they still wait", 1, x.card(2, 2));
        // One that is pulled holds nothing up any more.
        PlugTree y = Scenes.checked();
        Check.due("held up", false, y.step());
        y.pull(0);
        Check.due("by the one that is LEAVING", false, y.step());
        y.pull(2);
        Check.due("by none", true, y.step());
        Check.due("moved", PlugTree.WORKING, y.card(4, 0));
    }

    private static void allIsMoved() {
        Check.sentence("Otherwise all is MOVED .. those PAUSED are WORKING again, and it is");
        PlugTree x = Scenes.moved();
        int[] states = {PlugTree.WORKING, PlugTree.GONE, PlugTree.GONE, PlugTree.REFUSED, PlugTree.WORKING};
        for (int c = 0; c < 5; c++) {
            Check.due("card " + c, states[c], x.card(c, 0));
        }
        for (int k = 0; k < 3; k++) {
            Check.due("its range " + k, 1024 * k, x.range(4, k));
        }
        Check.due("the other", 3072, x.range(0, 0));
        Check.due("nothing where it was", 4, x.decode(0));
        Check.due("nothing behind", PlugTree.NONE, x.decode(3584));
        checkOpening("a bridge without cards", x, 1, 0, 0);
        Check.due("the next can be plugged", 5, x.plug(0, 1, 0));
        Check.due("and is looked at anew", true, x.step());
        Check.due("WORKING", PlugTree.WORKING, x.card(5, 0));
        Check.due("at what is left", 3584, x.range(5, 0));
    }

    private static void pulledWhileChecked() {
        Check.sentence("If it was NEW and CHECKED, all that are PAUSED are WORKING");
        PlugTree x = Scenes.checked();
        Check.due("no request of it", 0, x.pull(4));
        int[] states = {PlugTree.WORKING, PlugTree.GONE, PlugTree.LEAVING, PlugTree.REFUSED, PlugTree.GONE};
        for (int c = 0; c < 5; c++) {
            Check.due("card " + c, states[c], x.card(c, 0));
        }
        Check.due("at its place", 1024, x.range(2, 0));
        Check.due("nothing is left to do", false, x.step());
        Check.due("the next can be plugged", 5, x.plug(0, 2, 3));
        Check.due("and is not CHECKED", true, x.step());
        Check.due("but looked at", PlugTree.POWER, x.card(5, 1));
        // One that is not CHECKED: the others work as they did.
        PlugTree y = Scenes.unchecked();
        Check.due("no request of it", 0, y.pull(4));
        Check.due("WORKING", PlugTree.WORKING, y.card(0, 0));
        Check.due("GONE", PlugTree.GONE, y.card(4, 0));
        Check.due("nothing is left to do", false, y.step());
    }

    private static void pulledWhilePaused() {
        Check.sentence("A card is pulled out at once: it is GONE");
        PlugTree x = Scenes.fragmented();
        x.plug(0, 2, 1);
        x.step();
        Check.due("a PAUSED one", 0, x.pull(0));
        Check.due("GONE", PlugTree.GONE, x.card(0, 0));
        Check.due("the other is PAUSED still", PlugTree.PAUSED, x.card(2, 0));
        Check.due("the NEW one is CHECKED still", true, x.step());
        Check.due("moved where packing has it", 3072, x.range(2, 0));
        Check.due("one range of those there", 1, x.moved());
        // All of those there: the NEW one is moved alone.
        PlugTree y = Scenes.fragmented();
        y.plug(0, 2, 1);
        y.step();
        y.pull(0);
        y.pull(2);
        Check.due("the NEW one alone", true, y.step());
        Check.due("WORKING", PlugTree.WORKING, y.card(3, 0));
        Check.due("no range of those there", 0, y.moved());
    }

    private static void settleCounts() {
        Check.sentence("Steps until one changes nothing: how many changed something");
        Check.due("none", 0, new PlugTree().settle());
        Check.due("held up", 0, Scenes.checked().settle());
        Check.due("checked, then held up", 1, Scenes.unchecked().settle());
        PlugTree x = Scenes.fragmented();
        x.plug(0, 2, 1);
        Check.due("checked, then moved", 2, x.settle());
        Check.due("no more", 0, x.settle());
        x.leave(0);
        x.leave(2);
        Check.due("two GONE at once", 1, x.settle());
        x.plug(0, 0, 0);
        Check.due("fitting", 1, x.settle());
        x.leave(3);
        x.plug(0, 1, 1);
        Check.due("GONE and fitting at once", 1, x.settle());
        PlugTree y = Scenes.fragmented();
        y.type(-1, -1, -1, 0, true);
        Scenes.settled(y, 0, 3, 3);
        y.leave(3);
        y.plug(0, 2, 1);
        Check.due("GONE and checked at once, then moved", 2, y.settle());
        PlugTree z = Scenes.checked();
        for (int i = 0; i < 5; i++) {
            z.work(2);
        }
        Check.due("GONE, then held up", 1, z.settle());
        for (int i = 0; i < 3; i++) {
            z.work(0);
        }
        Check.due("moved", 1, z.settle());
    }

    private static void movedCountsRanges() {
        Check.sentence("How many ranges of cards that were there got another beginning");
        PlugTree x = new PlugTree();
        x.type(9, -1, -1, 0, true);
        x.type(8, 8, -1, 0, true);
        x.type(10, 10, 10, 0, true);
        Scenes.settled(x, 0, 0, 0);
        Scenes.settled(x, 0, 2, 0);
        Scenes.settled(x, 0, 1, 1);
        x.pull(1);
        Check.due("at first", 0, x.moved());
        x.plug(0, 2, 2);
        x.step();
        Check.due("checked alone", 0, x.moved());
        x.step();
        Check.due("one of the one card and two of the other, none of the new one", 3, x.moved());
        PlugTree y = new PlugTree();
        y.type(10, 8, -1, 0, true);
        y.type(9, -1, -1, 0, true);
        y.type(10, 10, -1, 0, true);
        Scenes.settled(y, 0, 0, 0);
        Scenes.settled(y, 0, 1, 1);
        Scenes.settled(y, 0, 2, 1);
        y.pull(1);
        // 1024 lie at 0, 256 at 1024, 512 at 2048.
        Check.due("512", 2048, y.range(2, 0));
        Scenes.settled(y, 0, 3, 2);
        Check.due("1024 stay", 0, y.range(0, 0));
        Check.due("256 get another beginning", 3584, y.range(0, 1));
        Check.due("512 too", 3072, y.range(2, 0));
        Check.due("two of three ranges", 2, y.moved());
        y.type(10, -1, -1, 0, true);
        Check.due("no room", PlugTree.ROOM, refusal(y, 0, 1, 3));
        Check.due("REFUSED, nothing moved", 2, y.moved());
    }

    private static void movedLast() {
        Check.sentence("when all was moved last; 0 at first");
        PlugTree x = Scenes.fragmented();
        Scenes.settled(x, 0, 2, 1);
        Check.due("two ranges", 2, x.moved());
        x.pull(0);
        Check.due("a pull moves nothing", 2, x.moved());
        Scenes.settled(x, 0, 0, 0);
        Check.due("nor does fitting", 2, x.moved());
        x.type(-1, -1, -1, 0, true);
        x.pull(3);
        x.pull(4);
        // Card 2 alone is left, at 3584.
        x.bridge(0, 2, 1000);
        x.bridge(1, 0, 1000);
        x.plug(2, 0, 0);
        x.step();
        Check.due("nor does a check", 2, x.moved());
        x.step();
        Check.due("the last one alone", 1, x.moved());
        Check.due("by slots: the card", 0, x.range(2, 0));
        checkOpening("then the bridge", x, 2, 512, 1024);
        x.bridge(0, 0, 1000);
        x.bridge(3, 0, 1000);
        x.type(0, -1, -1, 0, true);
        Scenes.settled(x, 4, 0, 4);
        Check.due("all that were there stay where they are", 0, x.moved());
        checkOpening("behind them", x, 4, 1024, 1088);
        x.type(6, -1, -1, 0, true);
        Scenes.settled(x, 4, 1, 5);
        Check.due("one of those there", 1, x.moved());
        Check.due("which lies behind the new one", 1088, x.range(6, 0));
    }
}
