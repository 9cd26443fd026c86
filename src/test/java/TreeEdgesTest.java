/** The sentences of "Terms" on bridges, types and cards, and those of the calls that ask for them, at their edges. */
public final class TreeEdgesTest {
    private TreeEdgesTest() {
    }

    public static void main(String[] args) {
        bridgesAreNumbered0To7();
        theRootHasALimitOf1000();
        aBridgeHasSlots0To3();
        eachSlotHasNothingABridgeOrACard();
        aSlotIsEmptyAgain();
        openingsBeginAndEndAtMultiplesOf64();
        openingsAreEmptyAtFirst();
        theRootsOpeningIs0To4096Always();
        depthIsAtMost4();
        limitsAre0To1000();
        typesAreNumbered0To15();
        eachTypeHasWhatItWasGiven();
        typesAreTakenAtAnyTime();
        sizesAre0And1To1024();
        sizesComeInAnyOrder();
        powersAre0To1000();
        cardsAreNumbered0To39();
        whatACardIs();
        thoseThereHaveRangesAndPower();
        powerUsedIsThatOfAllBelow();
        rangesHaveNoAddressInCommon();
        decodeTakesAnyAddress();
        openingsAreNoRanges();
        Check.end();
    }

    private static void bridgesAreNumbered0To7() {
        Check.sentence("BRIDGES are numbered 0 .. 7 as they are added");
        PlugTree x = new PlugTree();
        int[][] places = {{0, 3}, {0, 0}, {1, 2}, {0, 1}, {3, 3}, {4, 0}, {0, 2}};
        for (int i = 0; i < 7; i++) {
            int next = i + 1;
            Check.thrown("before it is added", Check.ARGUMENT, () -> x.power(next));
            Check.due("bridge", next, x.bridge(places[i][0], places[i][1], 10 * i));
            Check.due("in its slot", next, x.slot(places[i][0], places[i][1]));
            Check.due("its power", 0, x.power(next));
        }
        Check.thrown("a ninth", Check.STATE, () -> x.bridge(7, 0, 0));
        Check.thrown("no bridge 8", Check.ARGUMENT, () -> x.power(8));
        x.type(-1, -1, -1, 0, true);
        Check.due("a card in bridge 7", PlugTree.WORKING, x.card(Scenes.settled(x, 7, 3, 0), 0));
    }

    private static void theRootHasALimitOf1000() {
        Check.sentence("0, the ROOT, is there from the beginning, with a LIMIT of 1000");
        Check.due("1000", PlugTree.WORKING, stateBeside(1000, 0));
        Check.due("999 and 1", PlugTree.WORKING, stateBeside(999, 1));
        Check.due("1 and 999", PlugTree.WORKING, stateBeside(1, 999));
        Check.due("999 and 2", PlugTree.REFUSED, stateBeside(999, 2));
        Check.due("1000 and 1", PlugTree.REFUSED, stateBeside(1000, 1));
        Check.due("1000 and 1000", PlugTree.REFUSED, stateBeside(1000, 1000));
    }

    /** What a card in the root with some power becomes when one below a bridge has another. */
    private static int stateBeside(int below, int own) {
        PlugTree x = new PlugTree();
        x.bridge(0, 0, 1000);
        x.type(-1, -1, -1, below, true);
        x.type(-1, -1, -1, own, true);
        Scenes.settled(x, 1, 0, 0);
        return x.card(Scenes.settled(x, 0, 1, 1), 0);
    }

    private static void aBridgeHasSlots0To3() {
        Check.sentence("A bridge has SLOTS 0 .. 3");
        PlugTree x = new PlugTree();
        x.type(-1, -1, -1, 0, true);
        x.bridge(0, 3, 0);
        for (int s = 0; s < 4; s++) {
            Check.due("slot of a new bridge", PlugTree.NONE, x.slot(1, s));
            Check.due("a card in it", s, Scenes.settled(x, 1, s, 0));
            Check.due("it is there", 100 + s, x.slot(1, s));
        }
        Check.thrown("slot 4", Check.ARGUMENT, () -> x.slot(1, 4));
        Check.thrown("slot -1", Check.ARGUMENT, () -> x.slot(1, -1));
        PlugTree y = new PlugTree();
        for (int s = 0; s < 4; s++) {
            Check.due("a bridge in it", s + 1, y.bridge(0, s, 0));
        }
        Check.thrown("a bridge in slot 4", Check.ARGUMENT, () -> y.bridge(0, 4, 0));
        Check.thrown("a bridge in slot -1", Check.ARGUMENT, () -> y.bridge(0, -1, 0));
        for (int s = 0; s < 4; s++) {
            Check.due("it is there", s + 1, y.slot(0, s));
        }
    }

    private static void eachSlotHasNothingABridgeOrACard() {
        Check.sentence("NONE for nothing, a bridge's number, or 100 and a card's");
        PlugTree x = Scenes.fortyCards();
        Check.due("card 39", 139, x.slot(0, 0));
        Check.due("nothing", PlugTree.NONE, x.slot(0, 1));
        Check.due("bridge 1", 1, x.bridge(0, 1, 0));
        Check.due("in its slot", 1, x.slot(0, 1));
        PlugTree y = new PlugTree();
        y.type(-1, -1, -1, 0, true);
        y.plug(0, 2, 0);
        Check.due("card 0", 100, y.slot(0, 2));
    }

    private static void aSlotIsEmptyAgain() {
        Check.sentence("A card that is REFUSED or GONE is in no slot any more");
        PlugTree x = Scenes.busy();
        Check.due("REFUSED", PlugTree.NONE, x.slot(0, 2));
        Check.due("LEAVING", 102, x.slot(0, 1));
        for (int i = 0; i < 5; i++) {
            x.work(2);
        }
        x.step();
        Check.due("GONE by leave", PlugTree.NONE, x.slot(0, 1));
        x.pull(0);
        Check.due("GONE by pull", PlugTree.NONE, x.slot(0, 0));
        Check.due("a bridge into the one's slot", 2, x.bridge(0, 1, 0));
        Check.due("a card into the other's", 4, x.plug(0, 0, 0));
        x.pull(4);
        Check.due("GONE as a NEW one", PlugTree.NONE, x.slot(0, 0));
        // A card that is GONE does not take the next one out of their slot.
        x.plug(0, 0, 0);
        x.settle();
        Check.thrown("pull of one that is GONE", Check.STATE, () -> x.pull(4));
        Check.due("the next one", 105, x.slot(0, 0));
    }

    private static void openingsBeginAndEndAtMultiplesOf64() {
        Check.sentence("an OPENING, a range of addresses that begins and ends at multiples of 64");
        for (int e = 0; e <= 10; e++) {
            int size = 1 << e;
            PlugTree x = new PlugTree();
            x.type(e, -1, -1, 0, true);
            x.type(0, -1, -1, 0, true);
            x.bridge(0, 0, 1000);
            Scenes.settled(x, 1, 0, 0);
            Check.due("begins with 2 to " + e, 0, x.opening(1, false));
            Check.due("ends with 2 to " + e, Math.max(64, size), x.opening(1, true));
            PlugTree y = new PlugTree();
            y.type(e, -1, -1, 0, true);
            y.type(0, -1, -1, 0, true);
            y.bridge(0, 0, 1000);
            Scenes.settled(y, 0, 1, 1);
            Scenes.settled(y, 1, 0, 0);
            Check.due("begins beside one address, with 2 to " + e, 64, y.opening(1, false));
            Check.due("its range with 2 to " + e, Math.max(64, size), y.range(1, 0));
            Check.due("ends with 2 to " + e, size <= 64 ? 128 : 2 * size, y.opening(1, true));
        }
    }

    private static void openingsAreEmptyAtFirst() {
        Check.sentence("EMPTY at first, from 0 to 0");
        PlugTree x = new PlugTree();
        x.type(8, -1, -1, 0, true);
        x.type(-1, -1, -1, 0, true);
        Scenes.settled(x, 0, 0, 0);
        x.bridge(0, 1, 1000);
        Check.due("begins", 0, x.opening(1, false));
        Check.due("ends", 0, x.opening(1, true));
        Scenes.settled(x, 1, 0, 1);
        Check.due("begins, with a card without ranges", 0, x.opening(1, false));
        Check.due("ends, with a card without ranges", 0, x.opening(1, true));
        x.plug(1, 1, 0);
        Check.due("begins, with a NEW card", 0, x.opening(1, false));
        Check.due("ends, with a NEW card", 0, x.opening(1, true));
        x.step();
        Check.due("begins, with a WORKING one", 256, x.opening(1, false));
        Check.due("ends, with a WORKING one", 512, x.opening(1, true));
        x.bridge(1, 2, 1000);
        Check.due("begins, in one that is not EMPTY", 0, x.opening(2, false));
        Check.due("ends, in one that is not EMPTY", 0, x.opening(2, true));
    }

    private static void theRootsOpeningIs0To4096Always() {
        Check.sentence("the root's is 0 to 4096 always");
        checkRoot("at first", new PlugTree());
        checkRoot("with a NEW card", Scenes.unchecked());
        checkRoot("with one CHECKED", Scenes.checked());
        checkRoot("after all was moved", Scenes.moved());
        PlugTree x = Scenes.moved();
        x.pull(0);
        x.pull(4);
        checkRoot("with no card any more", x);
        // Packing lays 64 addresses alone.
        PlugTree y = new PlugTree();
        y.type(0, -1, -1, 0, true);
        y.bridge(0, 0, 1000);
        y.bridge(1, 0, 1000);
        Scenes.settled(y, 2, 0, 0);
        checkRoot("after the least packing", y);
    }

    private static void checkRoot(String when, PlugTree x) {
        Check.due("begins " + when, 0, x.opening(0, false));
        Check.due("ends " + when, 4096, x.opening(0, true));
    }

    private static void depthIsAtMost4() {
        Check.sentence("Its DEPTH is how many bridges it hangs under, at most 4");
        PlugTree x = Scenes.chain();
        x.type(0, -1, -1, 3, true);
        Check.thrown("under bridge 4", Check.STATE, () -> x.bridge(4, 3, 0));
        Check.due("beside bridge 4", 5, x.bridge(3, 3, 0));
        Check.thrown("under that", Check.STATE, () -> x.bridge(5, 0, 0));
        Check.due("beside bridge 3", 6, x.bridge(2, 1, 0));
        Check.due("under that", 7, x.bridge(6, 1, 0));
        Check.due("a card at depth 4", PlugTree.WORKING, x.card(Scenes.settled(x, 4, 0, 0), 0));
        for (int b = 0; b <= 4; b++) {
            Check.due("its power used of bridge " + b, 3, x.power(b));
        }
        Check.due("the opening at depth 4", 64, x.opening(4, true));
        Check.due("a card at depth 4 under a limit of 0", PlugTree.POWER, x.card(Scenes.settled(x, 7, 3, 0), 1));
    }

    private static void limitsAre0To1000() {
        Check.sentence("also when limit is not 0 .. 1000");
        Check.due("limit 0, power 0", PlugTree.WORKING, stateUnder(0, 0));
        Check.due("limit 0, power 1", PlugTree.REFUSED, stateUnder(0, 1));
        Check.due("limit 1, power 1", PlugTree.WORKING, stateUnder(1, 1));
        Check.due("limit 1, power 2", PlugTree.REFUSED, stateUnder(1, 2));
        Check.due("limit 999, power 999", PlugTree.WORKING, stateUnder(999, 999));
        Check.due("limit 999, power 1000", PlugTree.REFUSED, stateUnder(999, 1000));
        Check.due("limit 1000, power 1000", PlugTree.WORKING, stateUnder(1000, 1000));
        PlugTree x = new PlugTree();
        Check.thrown("limit -1", Check.ARGUMENT, () -> x.bridge(0, 0, -1));
        Check.thrown("limit 1001", Check.ARGUMENT, () -> x.bridge(0, 0, 1001));
    }

    private static int stateUnder(int limit, int power) {
        PlugTree x = new PlugTree();
        x.bridge(0, 0, limit);
        x.type(-1, -1, -1, power, true);
        return x.card(Scenes.settled(x, 1, 0, 0), 0);
    }

    private static void typesAreNumbered0To15() {
        Check.sentence("TYPES of cards are numbered 0 .. 15 as they are given");
        PlugTree x = new PlugTree();
        for (int t = 0; t < 16; t++) {
            int next = t;
            Check.thrown("before it is given", Check.ARGUMENT, () -> x.plug(0, 0, next));
            Check.due("type", t, x.type(-1, -1, -1, t + 1, true));
        }
        Check.thrown("a 17th", Check.STATE, () -> x.type(-1, -1, -1, 0, true));
        Check.thrown("no type 16", Check.ARGUMENT, () -> x.plug(0, 0, 16));
        for (int t = 0; t < 16; t++) {
            int card = Scenes.settled(x, 0, t % 4, t);
            Check.due("the power of type " + t, t + 1, x.power(0));
            x.pull(card);
        }
    }

    private static void eachTypeHasWhatItWasGiven() {
        Check.sentence("each has three SIZES, a POWER, and whether its cards can PAUSE");
        for (int t = 0; t < 16; t++) {
            PlugTree x = new PlugTree();
            for (int other = 0; other < 16; other++) {
                x.type(other == t ? 9 : -1, -1, other == t ? 3 : -1, other == t ? 5 : 0, other != t);
            }
            int last = (t + 1) % 16;
            Scenes.settled(x, 0, 0, t);
            Scenes.settled(x, 0, 1, last);
            Check.due("power of type " + t + " alone", 5, x.power(0));
            Check.due("512 of type " + t, 0, x.decode(511));
            Check.due("8 of type " + t, 512, x.range(0, 2));
            Check.due("no range of the next", PlugTree.NONE, x.range(1, 0));
            // Two bridges deep a card has a place only when all is moved.
            x.bridge(0, 2, 1000);
            x.bridge(1, 0, 1000);
            Check.due("type " + t + " cannot pause", PlugTree.NEIGHBOUR, x.card(Scenes.settled(x, 2, 0, t), 1));
            x.pull(0);
            Check.due("the next can", PlugTree.WORKING, x.card(Scenes.settled(x, 2, 0, t), 0));
        }
    }

    private static void typesAreTakenAtAnyTime() {
        Check.sentence("type: IllegalStateException: there are 16 (and for nothing else)");
        Check.due("in a new object", 0, new PlugTree().type(0, 0, 0, 0, true));
        Check.due("while a card is NEW", 4, Scenes.unchecked().type(0, 0, 0, 0, true));
        Check.due("with 8 bridges", 0, Scenes.eightBridges().type(0, 0, 0, 0, true));
        Check.due("with 40 cards", 3, Scenes.fortyCards().type(0, 0, 0, 0, true));
        PlugTree x = Scenes.checked();
        Check.due("while one is CHECKED", 4, x.type(0, 0, 0, 1, true));
        Check.due("which stays CHECKED", false, x.step());
        Check.due("the others stay PAUSED", PlugTree.PAUSED, x.card(0, 0));
    }

    private static void sizesAre0And1To1024() {
        Check.sentence("three SIZES (0 for none, or 1, 2, 4, .. 1024 addresses)");
        for (int k = 0; k < 3; k++) {
            for (int e = -1; e <= 10; e++) {
                PlugTree x = new PlugTree();
                x.type(k == 0 ? e : -1, k == 1 ? e : -1, k == 2 ? e : -1, 0, true);
                Scenes.settled(x, 0, 0, 0);
                int size = e < 0 ? 0 : 1 << e;
                String which = " of range " + k + " with exponent " + e;
                for (int other = 0; other < 3; other++) {
                    int begin = other == k && e >= 0 ? 0 : PlugTree.NONE;
                    Check.due("range " + other + which, begin, x.range(0, other));
                }
                Check.due("before" + which, PlugTree.NONE, x.decode(-1));
                Check.due("the first address" + which, size > 0 ? 0 : PlugTree.NONE, x.decode(0));
                Check.due("the last address" + which, size > 0 ? 0 : PlugTree.NONE, x.decode(size - 1));
                Check.due("behind" + which, PlugTree.NONE, x.decode(size));
            }
        }
    }

    private static void sizesComeInAnyOrder() {
        Check.sentence("in any order, perhaps none at all");
        int[][] exponents = {{0, 1, 2}, {2, 1, 0}, {1, 2, 0}, {-1, 2, 0}, {2, -1, 0}, {0, -1, 2}, {5, 5, 5},
            {0, 10, 0}};
        int[][] begins = {{6, 4, 0}, {0, 4, 6}, {4, 0, 6}, {-1, 0, 4}, {0, -1, 4}, {4, -1, 0}, {0, 32, 64},
            {1024, 0, 1025}};
        for (int i = 0; i < exponents.length; i++) {
            PlugTree x = new PlugTree();
            x.type(exponents[i][0], exponents[i][1], exponents[i][2], 0, true);
            Scenes.settled(x, 0, 0, 0);
            for (int k = 0; k < 3; k++) {
                Check.due("type " + i + ", range " + k, begins[i][k], x.range(0, k));
            }
        }
        PlugTree none = new PlugTree();
        none.type(-1, -1, -1, 7, true);
        Scenes.settled(none, 0, 0, 0);
        Check.due("none at all", PlugTree.WORKING, none.card(0, 0));
        Check.due("its power", 7, none.power(0));
        Check.due("no address", PlugTree.NONE, none.decode(0));
    }

    private static void powersAre0To1000() {
        Check.sentence("or power not 0 .. 1000");
        for (int power : new int[] {0, 1, 999, 1000}) {
            PlugTree x = new PlugTree();
            Check.due("taken", 0, x.type(-1, -1, -1, power, true));
            Scenes.settled(x, 0, 0, 0);
            Check.due("used", power, x.power(0));
        }
        PlugTree y = new PlugTree();
        Check.thrown("power -1", Check.ARGUMENT, () -> y.type(-1, -1, -1, -1, true));
        Check.thrown("power 1001", Check.ARGUMENT, () -> y.type(-1, -1, -1, 1001, true));
        Check.due("the next number", 0, y.type(-1, -1, -1, 0, true));
    }

    private static void cardsAreNumbered0To39() {
        Check.sentence("CARDS are numbered 0 .. 39 as they are plugged");
        PlugTree x = new PlugTree();
        x.type(-1, -1, -1, 0, true);
        x.type(-1, -1, -1, 1000, true);
        x.type(-1, -1, -1, 1, true);
        Scenes.settled(x, 0, 0, 1);
        for (int c = 1; c < 40; c++) {
            int next = c;
            Check.thrown("before it is plugged", Check.ARGUMENT, () -> x.card(next, 0));
            // Cards that are REFUSED keep their numbers as those do that are GONE.
            Check.due("card", c, x.plug(0, 1 + c % 3, c % 2 == 0 ? 0 : 2));
            x.settle();
            Check.due("it is", c % 2 == 0 ? PlugTree.WORKING : PlugTree.REFUSED, x.card(c, 0));
            if (c % 2 == 0) {
                x.pull(c);
            }
        }
        Check.thrown("a 41st", Check.STATE, () -> x.plug(0, 1, 0));
        Check.thrown("no card 40", Check.ARGUMENT, () -> x.card(40, 0));
        Check.due("card 39", PlugTree.REFUSED, x.card(39, 0));
        Check.due("card 0", PlugTree.WORKING, x.card(0, 0));
    }

    private static void whatACardIs() {
        Check.sentence("A card is NEW, WORKING, PAUSED, LEAVING, GONE or REFUSED");
        int[] unchecked = {PlugTree.WORKING, PlugTree.GONE, PlugTree.LEAVING, PlugTree.REFUSED, PlugTree.NEW};
        int[] checked = {PlugTree.PAUSED, PlugTree.GONE, PlugTree.LEAVING, PlugTree.REFUSED, PlugTree.NEW};
        int[] moved = {PlugTree.WORKING, PlugTree.GONE, PlugTree.GONE, PlugTree.REFUSED, PlugTree.WORKING};
        for (int c = 0; c < 5; c++) {
            Check.due("before the step, card " + c, unchecked[c], Scenes.unchecked().card(c, 0));
            Check.due("after the step, card " + c, checked[c], Scenes.checked().card(c, 0));
            Check.due("after the moving, card " + c, moved[c], Scenes.moved().card(c, 0));
        }
        Check.sentence("for what it was REFUSED, 0 if it was not");
        for (int c = 0; c < 5; c++) {
            int reason = c == 3 ? PlugTree.POWER : 0;
            Check.due("before the step, card " + c, reason, Scenes.unchecked().card(c, 1));
            Check.due("after the step, card " + c, reason, Scenes.checked().card(c, 1));
            Check.due("after the moving, card " + c, reason, Scenes.moved().card(c, 1));
        }
    }

    private static void thoseThereHaveRangesAndPower() {
        Check.sentence("those WORKING, PAUSED and LEAVING are THERE: they have a RANGE for each of their sizes but 0");
        int[] begins = {0, PlugTree.NONE, 1024, PlugTree.NONE, PlugTree.NONE};
        for (int c = 0; c < 5; c++) {
            Check.due("card " + c + " before the step", begins[c], Scenes.unchecked().range(c, 0));
            Check.due("card " + c + " after the step", begins[c], Scenes.checked().range(c, 0));
        }
        for (PlugTree x : new PlugTree[] {Scenes.unchecked(), Scenes.checked()}) {
            Check.due("the last address of card 0", 0, x.decode(511));
            Check.due("no card", PlugTree.NONE, x.decode(512));
            Check.due("the first address of card 2", 2, x.decode(1024));
            Check.due("no size but one", PlugTree.NONE, x.range(0, 1));
            Check.due("the power of cards 0 and 2", 2, x.power(0));
        }
        PlugTree x = Scenes.moved();
        Check.due("card 2 is GONE", PlugTree.NONE, x.range(2, 0));
        Check.due("card 4 is there", 2048, x.range(4, 2));
        Check.due("card 0 is there", 3072, x.range(0, 0));
        Check.due("the power of cards 0 and 4", 2, x.power(0));
    }

    private static void powerUsedIsThatOfAllBelow() {
        Check.sentence("The POWER USED of a bridge is that of all cards there in its slots and below");
        PlugTree x = Scenes.chain();
        x.bridge(0, 1, 1000);
        x.bridge(1, 1, 1000);
        for (int t = 0; t < 7; t++) {
            x.type(-1, -1, -1, 1 << t, true);
            Scenes.settled(x, t, 3, t);
        }
        int[] due = {127, 2 + 4 + 8 + 16 + 64, 4 + 8 + 16, 8 + 16, 16, 32, 64};
        for (int b = 0; b < 7; b++) {
            Check.due("bridge " + b, due[b], x.power(b));
        }
        x.pull(3);
        Check.due("bridge 3 without its own card", 16, x.power(3));
        Check.due("bridge 2 without that", 4 + 16, x.power(2));
        Check.due("the root without that", 119, x.power(0));
        x.leave(4);
        Check.due("with one LEAVING", 16, x.power(4));
        x.step();
        Check.due("with no card there", 0, x.power(3));
    }

    private static void rangesHaveNoAddressInCommon() {
        Check.sentence("all of these have no address in common");
        PlugTree x = new PlugTree();
        x.type(9, 8, 8, 0, true);
        for (int s = 0; s < 4; s++) {
            Scenes.settled(x, 0, s, 0);
        }
        for (int a = 0; a < 4096; a += 128) {
            Check.due("the first of 128 addresses", a / 1024, x.decode(a));
            Check.due("the last of 128 addresses", a / 1024, x.decode(a + 127));
        }
    }

    private static void decodeTakesAnyAddress() {
        Check.sentence("The card that is there with a range that has an address; NONE when there is none");
        PlugTree x = new PlugTree();
        x.type(10, 10, 10, 0, true);
        x.type(10, -1, -1, 0, true);
        Check.due("no card", PlugTree.NONE, x.decode(0));
        Scenes.settled(x, 0, 0, 0);
        Scenes.settled(x, 0, 1, 1);
        int[] addresses = {Integer.MIN_VALUE, -4096, -1, 0, 3071, 3072, 4095, 4096, 8192, Integer.MAX_VALUE};
        int[] due = {-1, -1, -1, 0, 0, 1, 1, -1, -1, -1};
        for (int i = 0; i < addresses.length; i++) {
            Check.due("decode(" + addresses[i] + ")", due[i], x.decode(addresses[i]));
        }
    }

    private static void openingsAreNoRanges() {
        Check.sentence("The card that is there with a range that has an address");
        PlugTree x = new PlugTree();
        x.type(6, -1, -1, 0, true);
        x.type(0, -1, -1, 0, true);
        x.bridge(0, 0, 1000);
        x.bridge(0, 1, 1000);
        Scenes.settled(x, 1, 0, 1);
        Scenes.settled(x, 2, 0, 0);
        Check.due("an opening's first address with a range", 0, x.decode(0));
        Check.due("an opening's address without one", PlugTree.NONE, x.decode(1));
        Check.due("the next opening", 1, x.decode(64));
        x.pull(1);
        Check.due("an opening whose card is GONE", PlugTree.NONE, x.decode(64));
        Check.due("the opening stays", 128, x.opening(2, true));
    }
}
