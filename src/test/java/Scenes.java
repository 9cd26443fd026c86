/** Trees in states that several tests begin with. */
final class Scenes {
    private Scenes() {
    }

    /** Plugs a card and lets the manager settle; the card's number. */
    static int settled(PlugTree x, int bridge, int slot, int type) {
        int card = x.plug(bridge, slot, type);
        x.settle();
        return card;
    }

    /**
     * Cards 0 and 2 WORKING in slots 0 and 1, at 0 and 1024, each with 512 addresses; card 1 is GONE. Three ranges of
     * 1024 (type 1, and type 2 that cannot pause) have a place only when all is moved, and fill the rest just then.
     */
    static PlugTree fragmented() {
        PlugTree x = new PlugTree();
        x.type(9, -1, -1, 1, true);
        x.type(10, 10, 10, 1, true);
        x.type(10, 10, 10, 1, false);
        settled(x, 0, 0, 0);
        settled(x, 0, 2, 0);
        settled(x, 0, 1, 0);
        x.pull(1);
        return x;
    }

    /**
     * The same with card 0 WORKING, a request of it started and two waiting; card 1 GONE; card 2 LEAVING with one
     * started; card 3 REFUSED; bridge 1 in slot 3. Tickets 0 .. 4, of which 4 is LOST.
     */
    static PlugTree busy() {
        PlugTree x = fragmented();
        x.type(-1, -1, -1, 1000, true);
        settled(x, 0, 2, 3);
        x.bridge(0, 3, 500);
        x.request(0, 3, 1);
        x.request(0, 0, 2);
        x.request(0, 9, -5);
        x.work(0);
        x.request(2, 5, 3);
        x.request(2, 1, 1);
        x.work(2);
        x.leave(2);
        return x;
    }

    /** Busy, and card 4 is NEW. */
    static PlugTree unchecked() {
        PlugTree x = busy();
        x.plug(0, 2, 1);
        return x;
    }

    /** Busy, and card 4 is NEW and CHECKED, so that card 0 is PAUSED. */
    static PlugTree checked() {
        PlugTree x = unchecked();
        x.step();
        return x;
    }

    /** All is moved after card 4 was checked; cards 0 and 4 are WORKING, card 2 is GONE. */
    static PlugTree moved() {
        PlugTree x = checked();
        for (int i = 0; i < 3; i++) {
            x.work(0);
        }
        for (int i = 0; i < 5; i++) {
            x.work(2);
        }
        x.settle();
        return x;
    }

    /** Bridges 1 to 4, each in slot 0 of the one before: bridge 4 is at depth 4. */
    static PlugTree chain() {
        PlugTree x = new PlugTree();
        for (int b = 1; b <= 4; b++) {
            x.bridge(b - 1, 0, 1000);
        }
        return x;
    }

    /** A chain, and bridges 5 to 7 in slots 1 to 3 of the root: there are 8. */
    static PlugTree eightBridges() {
        PlugTree x = chain();
        for (int b = 5; b <= 7; b++) {
            x.bridge(0, b - 4, 1000);
        }
        return x;
    }

    /** Sixteen types: 0 to 10 have one range of 2 to their number, the others none. */
    static PlugTree sixteenTypes() {
        PlugTree x = new PlugTree();
        for (int t = 0; t < 16; t++) {
            x.type(t <= 10 ? t : -1, -1, -1, 0, true);
        }
        return x;
    }

    /** Forty cards: card 39 is WORKING in slot 0, card 38 REFUSED, the others GONE; slots 1 to 3 are empty. */
    static PlugTree fortyCards() {
        PlugTree x = new PlugTree();
        x.type(4, -1, -1, 0, true);
        x.type(4, -1, -1, 1000, true);
        x.type(-1, -1, -1, 1, true);
        for (int c = 0; c < 37; c++) {
            x.plug(0, 1, 0);
            x.pull(c);
        }
        settled(x, 0, 1, 1);
        settled(x, 0, 2, 2);
        x.pull(37);
        settled(x, 0, 0, 0);
        return x;
    }

    /** Card 0 WORKING with 8 requests that wait. */
    static PlugTree eightWait() {
        PlugTree x = new PlugTree();
        x.type(3, 2, -1, 9, true);
        settled(x, 0, 0, 0);
        for (int i = 0; i < 8; i++) {
            x.request(0, 1, i);
        }
        return x;
    }

    /** Card 0 WORKING with 8 requests, one of them started. */
    static PlugTree eightWithOneStarted() {
        PlugTree x = eightWait();
        x.work(0);
        return x;
    }
}
