/** The sentences of "REQUESTS", and those of the calls that make, do and lose them, at their edges. */
public final class RequestEdgesTest {
    private static final int LEAST = Integer.MIN_VALUE;
    private static final int MOST = Integer.MAX_VALUE;

    private RequestEdgesTest() {
    }

    public static void main(String[] args) {
        ticketsAreNumberedFrom0();
        ticketsUpToTheLastCall();
        atMost8();
        atMost8OfEachCard();
        aPausedOneTakesRequests();
        opModulo8And1Pieces();
        aNumberAtFirst0();
        allAsInts();
        theNumberStaysWithItsCard();
        theFirstIsStartedFirst();
        workOfEachState();
        workOfAPausedOne();
        workOfALeavingOne();
        lostByPull();
        lostByLeave();
        goneAfterLeavingLosesNothing();
        howManyAreNotFinished();
        piecesToBeDone();
        noRequestIsLostByMoving();
        Check.end();
    }

    private static PlugTree twoCards() {
        PlugTree x = new PlugTree();
        x.type(3, -1, -1, 0, true);
        Scenes.settled(x, 0, 0, 0);
        Scenes.settled(x, 0, 1, 0);
        return x;
    }

    private static void finish(PlugTree x, int card) {
        for (int i = 0; i < 64 && x.work(card); i++) {
            continue;
        }
    }

    private static void ticketsAreNumberedFrom0() {
        Check.sentence("it gets a TICKET, numbered 0, 1, .. as they are made");
        PlugTree x = twoCards();
        for (int t = 0; t < 100; t++) {
            int next = t;
            Check.thrown("before it is made", Check.ARGUMENT, () -> x.result(next));
            Check.due("ticket", t, x.request(t % 2, 0, t));
            x.work(t % 2);
        }
        Check.due("the first", 0, x.result(0));
        Check.due("the second card's first", 1, x.result(1));
        Check.due("31 * 1 + 3", 34, x.result(3));
        x.pull(0);
        Check.due("tickets go on", 100, x.request(1, 0, 0));
    }

    private static void ticketsUpToTheLastCall() {
        Check.sentence("An object is used for at most 512 calls");
        PlugTree x = twoCards();
        int number = 0;
        for (int t = 0; t < 250; t++) {
            Check.due("ticket", t, x.request(0, 8, t));
            Check.due("its piece", true, x.work(0));
            number = 31 * number + t;
        }
        Check.due("the last result", number + 8, x.result(249));
        Check.due("the first result", 8, x.result(0));
        // Tickets without work: forty cards are pulled with 8 requests each.
        PlugTree y = new PlugTree();
        y.type(-1, -1, -1, 0, true);
        for (int t = 0; t < 320; t++) {
            if (t % 8 == 0) {
                y.plug(0, 0, 0);
                y.step();
            }
            Check.due("ticket", t, y.request(t / 8, 0, 0));
            if (t % 8 == 7) {
                Check.due("lost", 8, y.pull(t / 8));
            }
        }
        Check.due("the last one", PlugTree.LOST, y.result(319));
        Check.thrown("no more", Check.ARGUMENT, () -> y.result(320));
    }

    private static void atMost8() {
        Check.sentence("waits behind those of that card that are not finished, at most 8 with it");
        PlugTree x = twoCards();
        for (int t = 0; t < 8; t++) {
            Check.due("the first eight", t, x.request(0, 1, t));
        }
        Check.thrown("a ninth", Check.STATE, () -> x.request(0, 0, 0));
        x.work(0);
        Check.due("8 with the started one", 8, x.card(0, 2));
        Check.thrown("a ninth when one is started", Check.STATE, () -> x.request(0, 0, 0));
        x.work(0);
        Check.due("7 when it is finished", 7, x.card(0, 2));
        Check.due("an eighth", 8, x.request(0, 1, 8));
        Check.thrown("a ninth again", Check.STATE, () -> x.request(0, 0, 0));
        finish(x, 0);
        int number = 0;
        for (int t = 0; t <= 8; t++) {
            number = 31 * number + t;
            Check.due("each is finished in its turn", number + 1, x.result(t));
        }
        for (int t = 9; t < 17; t++) {
            Check.due("eight again", t, x.request(0, 0, t));
        }
        Check.thrown("and no ninth", Check.STATE, () -> x.request(0, 0, 0));
    }

    private static void atMost8OfEachCard() {
        Check.sentence("those of that card that are not finished, at most 8 with it");
        PlugTree x = twoCards();
        for (int t = 0; t < 16; t++) {
            Check.due("eight of each", t, x.request(t / 8, 0, t));
        }
        Check.thrown("a ninth of the one", Check.STATE, () -> x.request(0, 0, 0));
        Check.thrown("a ninth of the other", Check.STATE, () -> x.request(1, 0, 0));
        x.work(1);
        Check.thrown("a ninth of the one still", Check.STATE, () -> x.request(0, 0, 0));
        Check.due("an eighth of the other", 16, x.request(1, 0, 0));
    }

    private static void aPausedOneTakesRequests() {
        Check.sentence("the card is neither WORKING nor PAUSED, or 8 wait that are not finished");
        PlugTree x = Scenes.checked();
        // Card 0 has one that is started and two that wait.
        for (int t = 5; t < 10; t++) {
            Check.due("up to eight", t, x.request(0, 0, 0));
        }
        Check.thrown("a ninth", Check.STATE, () -> x.request(0, 0, 0));
        for (int i = 0; i < 3; i++) {
            x.work(0);
        }
        Check.due("7 when one is finished", 7, x.card(0, 2));
        Check.due("an eighth", 10, x.request(0, 0, 0));
        Check.thrown("a ninth again", Check.STATE, () -> x.request(0, 0, 0));
        Check.due("none of them is started", false, x.work(0));
    }

    private static void opModulo8And1Pieces() {
        Check.sentence("the first one is started, with op modulo 8, and 1, pieces");
        int[] ops = {0, 1, 6, 7, 8, 9, 15, 16, 17, 255, 256, (1 << 29) + 5, 1 << 30, MOST - 7, MOST - 1, MOST};
        int[] pieces = {1, 2, 7, 8, 1, 2, 8, 1, 2, 8, 1, 6, 1, 1, 7, 8};
        for (int i = 0; i < ops.length; i++) {
            PlugTree x = twoCards();
            x.request(0, ops[i], 0);
            Check.due("none is started, op " + ops[i], 0, x.card(0, 3));
            for (int left = pieces[i] - 1; left >= 0; left--) {
                Check.due("PENDING, op " + ops[i], PlugTree.PENDING, x.result(0));
                Check.due("a piece, op " + ops[i], true, x.work(0));
                Check.due("to be done, op " + ops[i], left, x.card(0, 3));
            }
            Check.due("finished, op " + ops[i], ops[i], x.result(0));
            Check.due("no more, op " + ops[i], false, x.work(0));
        }
    }

    private static void aNumberAtFirst0() {
        Check.sentence("A card has a number x, at first 0 .. x becomes 31 x + word, and its RESULT is x + op");
        PlugTree x = twoCards();
        int[] ops = {0, 3, 0, 8, 1};
        int[] words = {5, 7, 0, -10, -1000000};
        long[] due = {5, 162 + 3, 31 * 162, 31 * 5022 - 10 + 8, 31 * 155672 - 1000000 + 1};
        for (int i = 0; i < ops.length; i++) {
            x.request(0, ops[i], words[i]);
            finish(x, 0);
            Check.due("result " + i, due[i], x.result(i));
        }
        x.request(1, 2, 9);
        finish(x, 1);
        Check.due("the other card's", 11, x.result(5));
    }

    private static void allAsInts() {
        Check.sentence("x becomes 31 x + word, and its RESULT is x + op (all as ints)");
        int[][] words = {{MOST}, {LEAST}, {-1}, {MOST, 0}, {LEAST, 0}, {MOST, MOST}, {69273667, 0}, {69273666, 1},
            {69273666, 2}, {-69273666, -2}, {-69273666, -3}, {1 << 27, 1 << 27}, {MOST}, {MOST}, {0}, {1}, {-1},
            {LEAST}};
        int[] ops = {0, 0, 0, 0, 0, 0, 0, 0, 0, 0, 0, 0, 1, MOST, MOST, MOST, MOST, MOST};
        long[] due = {2147483647L, -2147483648L, -1L, 2147483617L, -2147483648L, -32L, -2147483619L, 2147483647L,
            -2147483648L, -2147483648L, 2147483647L, 0L, -2147483648L, -2L, 2147483647L, -2147483648L, 2147483646L,
            -1L};
        for (int i = 0; i < words.length; i++) {
            PlugTree x = twoCards();
            int last = words[i].length - 1;
            for (int j = 0; j <= last; j++) {
                x.request(0, j == last ? ops[i] : 0, words[i][j]);
            }
            finish(x, 0);
            Check.due("case " + i, due[i], x.result(last));
        }
        Check.due("PENDING is no int", 1099511627776L, PlugTree.PENDING);
        Check.due("nor is LOST", 2199023255552L, PlugTree.LOST);
    }

    private static void theNumberStaysWithItsCard() {
        Check.sentence("A card has a number x, at first 0");
        PlugTree x = Scenes.fragmented();
        x.request(0, 0, 4);
        x.work(0);
        Scenes.settled(x, 0, 2, 1);
        x.request(0, 0, 1);
        x.work(0);
        Check.due("after it has paused and moved", 125, x.result(1));
        x.pull(0);
        int next = Scenes.settled(x, 0, 0, 0);
        x.request(next, 0, 1);
        x.work(next);
        Check.due("another card in the same slot", 1, x.result(2));
    }

    private static void theFirstIsStartedFirst() {
        Check.sentence("and some request waits, the first one is started");
        PlugTree x = twoCards();
        x.request(0, 1, 100);
        x.request(1, 0, 200);
        x.request(0, 0, 300);
        x.work(0);
        Check.due("the first one has a piece left", 1, x.card(0, 3));
        x.work(0);
        Check.due("the first one", 101, x.result(0));
        Check.due("the next waits", PlugTree.PENDING, x.result(2));
        Check.due("and is not started", 0, x.card(0, 3));
        Check.due("the other card's waits", PlugTree.PENDING, x.result(1));
        x.work(0);
        Check.due("then the next", 3400, x.result(2));
        x.work(1);
        Check.due("then the other card's", 200, x.result(1));
    }

    private static void workOfEachState() {
        Check.sentence("if it has none started, is WORKING, and some request waits .. whether a piece was done");
        PlugTree x = Scenes.unchecked();
        Check.due("WORKING, one started", true, x.work(0));
        Check.due("GONE", false, x.work(1));
        Check.due("LEAVING, one started", true, x.work(2));
        Check.due("REFUSED", false, x.work(3));
        Check.due("NEW", false, x.work(4));
        PlugTree y = Scenes.checked();
        Check.due("PAUSED, one started", true, y.work(0));
        Check.due("GONE", false, y.work(1));
        Check.due("LEAVING, one started", true, y.work(2));
        Check.due("REFUSED", false, y.work(3));
        Check.due("NEW and CHECKED", false, y.work(4));
        PlugTree z = twoCards();
        Check.due("WORKING, none waits", false, z.work(0));
        z.request(1, 0, 0);
        Check.due("WORKING, one of another waits", false, z.work(0));
        z.request(0, 0, 0);
        Check.due("WORKING, one waits", true, z.work(0));
        Check.due("WORKING, none waits any more", false, z.work(0));
    }

    private static void workOfAPausedOne() {
        Check.sentence("also a PAUSED or LEAVING one, if one is started");
        PlugTree x = Scenes.checked();
        for (int left = 2; left >= 0; left--) {
            Check.due("PAUSED, one is started", true, x.work(0));
            Check.due("its pieces", left, x.card(0, 3));
        }
        Check.due("it is finished", 4, x.result(0));
        Check.due("PAUSED, two wait", false, x.work(0));
        Check.due("they wait", 2, x.card(0, 2));
        Check.due("none is started", 0, x.card(0, 3));
        x.pull(4);
        Check.due("WORKING again by the pull", true, x.work(0));
        Check.due("31 * 1 + 2", 33, x.result(1));
    }

    private static void workOfALeavingOne() {
        Check.sentence("also a PAUSED or LEAVING one, if one is started");
        PlugTree x = Scenes.busy();
        for (int left = 4; left >= 0; left--) {
            Check.due("LEAVING, one is started", true, x.work(2));
            Check.due("its pieces", left, x.card(2, 3));
        }
        Check.due("it is finished", 8, x.result(3));
        Check.due("LEAVING, none is left", false, x.work(2));
        Check.due("LEAVING", PlugTree.LEAVING, x.card(2, 0));
        PlugTree y = twoCards();
        y.request(0, 0, 0);
        y.leave(0);
        Check.due("LEAVING, none was started", false, y.work(0));
    }

    private static void lostByPull() {
        Check.sentence("When a card is GONE by pull() all its requests that are not finished are LOST");
        Check.due("none", 0, twoCards().pull(0));
        Check.due("8 that wait", 8, Scenes.eightWait().pull(0));
        Check.due("8 with the started one", 8, Scenes.eightWithOneStarted().pull(0));
        PlugTree x = Scenes.eightWithOneStarted();
        x.work(0);
        x.work(0);
        Check.due("7 when one is finished", 7, x.pull(0));
        Check.due("the finished one", 1, x.result(0));
        for (int t = 1; t < 8; t++) {
            Check.due("ticket " + t, PlugTree.LOST, x.result(t));
        }
        Check.due("none is left", 0, x.card(0, 2));
        Check.due("no piece is left", 0, x.card(0, 3));
        PlugTree y = Scenes.checked();
        Check.due("of a LEAVING one the started", 1, y.pull(2));
        Check.due("LOST", PlugTree.LOST, y.result(3));
        Check.due("of a PAUSED one all", 3, y.pull(0));
        Check.due("of a NEW one none", 0, y.pull(4));
        for (int t = 0; t < 5; t++) {
            Check.due("ticket " + t, PlugTree.LOST, y.result(t));
        }
        PlugTree z = twoCards();
        z.request(0, 0, 0);
        z.request(1, 0, 0);
        z.pull(0);
        Check.due("those of other cards wait on", PlugTree.PENDING, z.result(1));
        Check.due("those of other cards", 1, z.card(1, 2));
    }

    private static void lostByLeave() {
        Check.sentence("when it is LEAVING all those that are not started");
        Check.due("none", 0, twoCards().leave(0));
        PlugTree x = Scenes.eightWait();
        Check.due("8 that wait", 8, x.leave(0));
        for (int t = 0; t < 8; t++) {
            Check.due("ticket " + t, PlugTree.LOST, x.result(t));
        }
        Check.due("none is left", 0, x.card(0, 2));
        PlugTree y = Scenes.eightWithOneStarted();
        Check.due("7 but the started one", 7, y.leave(0));
        Check.due("the started one", PlugTree.PENDING, y.result(0));
        for (int t = 1; t < 8; t++) {
            Check.due("ticket " + t, PlugTree.LOST, y.result(t));
        }
        Check.due("one is left", 1, y.card(0, 2));
        Check.due("with its piece", 1, y.card(0, 3));
        PlugTree z = twoCards();
        z.request(0, 1, 6);
        z.work(0);
        Check.due("none but the started one", 0, z.leave(0));
        z.work(0);
        Check.due("which is finished", 7, z.result(0));
        PlugTree w = twoCards();
        w.request(0, 0, 6);
        w.work(0);
        w.request(0, 0, 6);
        Check.due("one behind a finished one", 1, w.leave(0));
        Check.due("the finished one", 6, w.result(0));
    }

    private static void goneAfterLeavingLosesNothing() {
        Check.sentence("When a card is GONE by pull() (not by a step)");
        PlugTree x = Scenes.busy();
        for (int i = 0; i < 5; i++) {
            x.work(2);
        }
        x.step();
        Check.due("GONE", PlugTree.GONE, x.card(2, 0));
        Check.due("the finished one keeps its result", 8, x.result(3));
        Check.due("the LOST one is LOST", PlugTree.LOST, x.result(4));
        Check.due("no request", 0, x.card(2, 2));
        Check.due("those of another wait", PlugTree.PENDING, x.result(1));
    }

    private static void howManyAreNotFinished() {
        Check.sentence("how many requests of it are not finished (2)");
        PlugTree x = twoCards();
        for (int n = 0; n < 8; n++) {
            Check.due("those that wait", n, x.card(0, 2));
            x.request(0, 1, 0);
        }
        Check.due("eight", 8, x.card(0, 2));
        for (int n = 8; n > 0; n--) {
            x.work(0);
            Check.due("with the started one", n, x.card(0, 2));
            x.work(0);
            Check.due("without the finished one", n - 1, x.card(0, 2));
        }
        Check.due("of the other card", 0, x.card(1, 2));
        PlugTree y = Scenes.checked();
        int[] due = {3, 0, 1, 0, 0};
        for (int c = 0; c < 5; c++) {
            Check.due("of card " + c, due[c], y.card(c, 2));
        }
    }

    private static void piecesToBeDone() {
        Check.sentence("the pieces to be done of the one that is started, 0 if none is (3)");
        PlugTree x = Scenes.checked();
        int[] due = {3, 0, 5, 0, 0};
        for (int c = 0; c < 5; c++) {
            Check.due("of card " + c, due[c], x.card(c, 3));
        }
        x.pull(0);
        Check.due("of one that is pulled", 0, x.card(0, 3));
        PlugTree y = Scenes.eightWait();
        Check.due("8 wait, none is started", 0, y.card(0, 3));
    }

    private static void noRequestIsLostByMoving() {
        Check.sentence("loses no request on the way");
        PlugTree x = Scenes.moved();
        Check.due("the one that was started", 4, x.result(0));
        Check.due("the ones that wait", 2, x.card(0, 2));
        Check.due("PENDING", PlugTree.PENDING, x.result(1));
        Check.due("PENDING", PlugTree.PENDING, x.result(2));
        finish(x, 0);
        Check.due("31 * 1 + 2", 33, x.result(1));
        Check.due("31 * 33 - 5 + 9", 1027, x.result(2));
        Check.due("of the one that left", 8, x.result(3));
    }
}
