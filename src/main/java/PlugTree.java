import java.util.ArrayList;

/** The manager of a tree of bridges and cards; shared/DOC.md has its promises by number. */
public final class PlugTree {
    public static final int NONE = -1;
    public static final int NEW = 0, WORKING = 1, PAUSED = 2, LEAVING = 3, GONE = 4, REFUSED = 5;
    public static final int POWER = 1, NEIGHBOUR = 2, ROOM = 3;
    public static final long PENDING = 1L << 40, LOST = 1L << 41;

    private static final int ADDRESSES = 4096;
    private static final int GRAIN = 64;
    private static final int SLOTS = 4;
    private static final int RANGES = 3;
    private static final int MAX_BRIDGES = 8;
    private static final int MAX_DEPTH = 4;
    private static final int MAX_TYPES = 16;
    private static final int MAX_CARDS = 40;
    private static final int MAX_UNFINISHED = 8;
    private static final int MAX_LIMIT = 1000;
    private static final int MAX_EXPONENT = 10;
    private static final int MAX_CALLS = 512;
    private static final int CARD_IN_SLOT = 100;

    private final Bridge[] bridges = new Bridge[MAX_BRIDGES];
    private final Type[] types = new Type[MAX_TYPES];
    private final Card[] cards = new Card[MAX_CARDS];
    private final ArrayList<Request> requests = new ArrayList<>();
    private final Stretches inside = new Stretches();
    private final Stretches beside = new Stretches();
    private final Stretches trial = new Stretches();
    private final int[] places = new int[RANGES];
    private int bridgeCount;
    private int typeCount;
    private int cardCount;
    private Card fresh;
    private boolean checked;
    private int movedRanges;

    public PlugTree() {
        bridges[0] = new Bridge(0, null, MAX_LIMIT);
        bridges[0].end = ADDRESSES;
        bridgeCount = 1;
    }

    public int bridge(int parent, int slot, int limit) throws IllegalArgumentException, IllegalStateException {
        Bridge above = bridgeNumbered(parent);
        requireSlot(slot);
        requireWithin(limit, 0, MAX_LIMIT);
        if (!above.isSlotEmpty(slot) || bridgeCount == MAX_BRIDGES || above.depth == MAX_DEPTH || fresh != null) {
            throw new IllegalStateException();
        }
        Bridge added = new Bridge(bridgeCount, above, limit);
        above.bridgeIn[slot] = added;
        bridges[bridgeCount] = added;
        return bridgeCount++;
    }

    public int type(int first, int second, int third, int power, boolean pauses)
            throws IllegalArgumentException, IllegalStateException {
        requireWithin(first, -1, MAX_EXPONENT);
        requireWithin(second, -1, MAX_EXPONENT);
        requireWithin(third, -1, MAX_EXPONENT);
        requireWithin(power, 0, MAX_LIMIT);
        if (typeCount == MAX_TYPES) {
            throw new IllegalStateException();
        }
        types[typeCount] = new Type(first, second, third, power, pauses);
        return typeCount++;
    }

    public int plug(int bridge, int slot, int type) throws IllegalArgumentException, IllegalStateException {
        Bridge own = bridgeNumbered(bridge);
        requireSlot(slot);
        requireWithin(type, 0, typeCount - 1);
        if (!own.isSlotEmpty(slot) || cardCount == MAX_CARDS || fresh != null) {
            throw new IllegalStateException();
        }
        Card plugged = new Card(own, slot, types[type]);
        own.cardIn[slot] = plugged;
        cards[cardCount] = plugged;
        plugged.number = cardCount;
        fresh = plugged;
        checked = false;
        return cardCount++;
    }

    public boolean step() {
        boolean changed = dismissLeaving();
        if (fresh == null) {
            return changed;
        }
        if (!checked) {
            examine(fresh);
            return true;
        }
        if (isSomeRequestStarted()) {
            return changed;
        }
        moveAll(fresh);
        return true;
    }

    public int settle() {
        int changes = 0;
        // Without work or new cards two steps are the most that can change something.
        while (changes < MAX_CALLS && step()) {
            changes++;
        }
        return changes;
    }

    public int pull(int card) throws IllegalArgumentException, IllegalStateException {
        Card pulled = cardNumbered(card);
        if (pulled.state == GONE || pulled.state == REFUSED) {
            throw new IllegalStateException();
        }
        if (pulled == fresh) {
            fresh = null;
            if (checked) {
                turnAll(PAUSED, WORKING);
            }
        }
        pulled.takeOut(GONE);
        return pulled.loseFrom(0);
    }

    public int leave(int card) throws IllegalArgumentException, IllegalStateException {
        Card leaving = cardNumbered(card);
        if (leaving.state != WORKING) {
            throw new IllegalStateException();
        }
        leaving.state = LEAVING;
        return leaving.loseFrom(leaving.pieces > 0 ? 1 : 0);
    }

    public int request(int card, int op, int word) throws IllegalArgumentException, IllegalStateException {
        Card asked = cardNumbered(card);
        if (op < 0) {
            throw new IllegalArgumentException();
        }
        boolean takesRequests = asked.state == WORKING || asked.state == PAUSED;
        // More tickets than calls are only asked for after the last promised call.
        if (!takesRequests || asked.unfinished == MAX_UNFINISHED || requests.size() >= MAX_CALLS) {
            throw new IllegalStateException();
        }
        Request made = new Request(op, word);
        asked.queue[asked.unfinished] = made;
        asked.unfinished++;
        requests.add(made);
        return requests.size() - 1;
    }

    public boolean work(int card) throws IllegalArgumentException {
        return cardNumbered(card).doPiece();
    }

    public long result(int ticket) throws IllegalArgumentException {
        requireWithin(ticket, 0, requests.size() - 1);
        return requests.get(ticket).outcome;
    }

    public int card(int card, int what) throws IllegalArgumentException {
        Card asked = cardNumbered(card);
        switch (what) {
            case 0:
                return asked.state;
            case 1:
                return asked.reason;
            case 2:
                return asked.unfinished;
            case 3:
                return asked.pieces;
            default:
                throw new IllegalArgumentException();
        }
    }

    public int range(int card, int k) throws IllegalArgumentException {
        Card asked = cardNumbered(card);
        requireWithin(k, 0, RANGES - 1);
        return asked.isThere() && asked.type.sizes[k] > 0 ? asked.begins[k] : NONE;
    }

    public int opening(int bridge, boolean end) throws IllegalArgumentException {
        Bridge asked = bridgeNumbered(bridge);
        return end ? asked.end : asked.begin;
    }

    public int decode(int address) {
        for (int i = 0; i < cardCount; i++) {
            if (cards[i].isThere() && cards[i].holds(address)) {
                return i;
            }
        }
        return NONE;
    }

    public int power(int bridge) throws IllegalArgumentException {
        return powerUsed(bridgeNumbered(bridge));
    }

    public int slot(int bridge, int slot) throws IllegalArgumentException {
        Bridge asked = bridgeNumbered(bridge);
        requireSlot(slot);
        if (asked.bridgeIn[slot] != null) {
            return asked.bridgeIn[slot].number;
        }
        return asked.cardIn[slot] != null ? CARD_IN_SLOT + asked.cardIn[slot].number : NONE;
    }

    public int moved() {
        return movedRanges;
    }

    private static void requireWithin(int value, int least, int most) {
        if (value < least || value > most) {
            throw new IllegalArgumentException();
        }
    }

    private static void requireSlot(int slot) {
        requireWithin(slot, 0, SLOTS - 1);
    }

    private Bridge bridgeNumbered(int number) {
        requireWithin(number, 0, bridgeCount - 1);
        return bridges[number];
    }

    private Card cardNumbered(int number) {
        requireWithin(number, 0, cardCount - 1);
        return cards[number];
    }

    private boolean dismissLeaving() {
        boolean dismissed = false;
        for (int i = 0; i < cardCount; i++) {
            if (cards[i].state == LEAVING && cards[i].pieces == 0) {
                cards[i].takeOut(GONE);
                dismissed = true;
            }
        }
        return dismissed;
    }

    /** Decides on the NEW card that is not checked: it is refused, or working, or checked. */
    private void examine(Card card) {
        inside.gather(card.bridge, null);
        if (exceedsPower(card)) {
            refuse(card, POWER);
        } else if (fits(card, card.bridge.begin, card.bridge.end) || grows(card)) {
            settleIn(card);
        } else if (!canAllPause()) {
            refuse(card, NEIGHBOUR);
        } else if (measureBlocks() > ADDRESSES) {
            refuse(card, ROOM);
        } else {
            turnAll(WORKING, PAUSED);
            checked = true;
        }
    }

    private void refuse(Card card, int reason) {
        card.takeOut(REFUSED);
        card.reason = reason;
        fresh = null;
    }

    private void settleIn(Card card) {
        System.arraycopy(places, 0, card.begins, 0, RANGES);
        card.state = WORKING;
        fresh = null;
    }

    private boolean exceedsPower(Card card) {
        for (Bridge above = card.bridge; above != null; above = above.parent) {
            if (powerUsed(above) + card.type.power > above.limit) {
                return true;
            }
        }
        return false;
    }

    private int powerUsed(Bridge bridge) {
        int used = 0;
        for (int i = 0; i < cardCount; i++) {
            if (cards[i].isThere() && cards[i].bridge.isAtOrBelow(bridge)) {
                used += cards[i].type.power;
            }
        }
        return used;
    }

    /** Whether all ranges of a card have a place beside those inside, from begin to end; then they are in places. */
    private boolean fits(Card card, int begin, int end) {
        trial.become(inside);
        for (int i = 0; i < RANGES; i++) {
            int k = card.type.order[i];
            int size = card.type.sizes[k];
            int place = size > 0 ? trial.placeFor(size, begin, end) : 0;
            if (place == NONE) {
                return false;
            }
            places[k] = place;
            if (size > 0) {
                trial.add(place, place + size);
            }
        }
        return true;
    }

    /** Lets the opening of a card's bridge grow until the card fits; whether it came to that. */
    private boolean grows(Card card) {
        Bridge own = card.bridge;
        Bridge above = own.parent;
        if (above == null) {
            return false;
        }
        beside.gather(above, own);
        if (!own.isClosed()) {
            return growsFrom(card, own.begin, own.end, above.end);
        }
        for (int begin = above.begin; begin < above.end; begin += GRAIN) {
            if (growsFrom(card, begin, begin, above.end)) {
                return true;
            }
        }
        return false;
    }

    private boolean growsFrom(Card card, int begin, int end, int last) {
        for (int from = end; from < last && beside.isFree(from, from + GRAIN); from += GRAIN) {
            if (fits(card, begin, from + GRAIN)) {
                card.bridge.begin = begin;
                card.bridge.end = from + GRAIN;
                return true;
            }
        }
        return false;
    }

    private boolean canAllPause() {
        for (int i = 0; i < cardCount; i++) {
            if (cards[i].isThere() && !cards[i].type.pauses) {
                return false;
            }
        }
        return true;
    }

    private boolean isSomeRequestStarted() {
        for (int i = 0; i < cardCount; i++) {
            if (cards[i].pieces > 0) {
                return true;
            }
        }
        return false;
    }

    private void turnAll(int from, int to) {
        for (int i = 0; i < cardCount; i++) {
            if (cards[i].state == from) {
                cards[i].state = to;
            }
        }
    }

    /** Works out the blocks for packing what is in the slots; answers what the root lays. */
    private int measureBlocks() {
        int sum = 0;
        // A bridge has a greater number than the one it hangs under, so blocks below are known first.
        for (int b = bridgeCount - 1; b >= 0; b--) {
            sum = bridges[b].sumToLay();
            bridges[b].block = blockFor(sum);
        }
        return sum;
    }

    private static int blockFor(int sum) {
        if (sum == 0) {
            return 0;
        }
        int block = GRAIN;
        // 32 slots of three ranges of 1024 stay far below this bound.
        while (block < sum && block < 1 << 20) {
            block *= 2;
        }
        return block;
    }

    private void moveAll(Card joining) {
        measureBlocks();
        movedRanges = 0;
        for (int b = 1; b < bridgeCount; b++) {
            bridges[b].begin = 0;
            bridges[b].end = 0;
        }
        for (int b = 0; b < bridgeCount; b++) {
            layOut(bridges[b]);
        }
        turnAll(PAUSED, WORKING);
        joining.state = WORKING;
        fresh = null;
    }

    private void layOut(Bridge bridge) {
        int at = bridge.begin;
        for (int size = ADDRESSES; size > 0; size /= 2) {
            for (int s = 0; s < SLOTS; s++) {
                if (bridge.cardIn[s] != null) {
                    at = layRanges(bridge.cardIn[s], size, at);
                } else if (bridge.bridgeIn[s] != null) {
                    at = layBlock(bridge.bridgeIn[s], size, at);
                }
            }
        }
    }

    private int layRanges(Card card, int size, int at) {
        int next = at;
        for (int k = 0; k < RANGES; k++) {
            if (card.type.sizes[k] == size) {
                if (card != fresh && card.begins[k] != next) {
                    movedRanges++;
                }
                card.begins[k] = next;
                next += size;
            }
        }
        return next;
    }

    private static int layBlock(Bridge bridge, int size, int at) {
        if (bridge.block != size) {
            return at;
        }
        bridge.begin = at;
        bridge.end = at + size;
        return bridge.end;
    }

    private static final class Bridge {
        final int number;
        final Bridge parent;
        final int limit;
        final int depth;
        final Bridge[] bridgeIn = new Bridge[SLOTS];
        final Card[] cardIn = new Card[SLOTS];
        int begin;
        int end;
        int block;

        Bridge(int number, Bridge parent, int limit) {
            this.number = number;
            this.parent = parent;
            this.limit = limit;
            this.depth = parent == null ? 0 : parent.depth + 1;
        }

        boolean isSlotEmpty(int slot) {
            return bridgeIn[slot] == null && cardIn[slot] == null;
        }

        boolean isClosed() {
            return begin == end;
        }

        boolean isAtOrBelow(Bridge other) {
            for (Bridge above = this; above != null; above = above.parent) {
                if (above == other) {
                    return true;
                }
            }
            return false;
        }

        int sumToLay() {
            int sum = 0;
            for (int s = 0; s < SLOTS; s++) {
                if (cardIn[s] != null) {
                    sum += cardIn[s].type.sumOfSizes();
                } else if (bridgeIn[s] != null) {
                    sum += bridgeIn[s].block;
                }
            }
            return sum;
        }
    }

    private static final class Type {
        final int[] sizes = new int[RANGES];
        final int[] order = new int[RANGES];
        final int power;
        final boolean pauses;

        Type(int first, int second, int third, int power, boolean pauses) {
            sizes[0] = sizeOf(first);
            sizes[1] = sizeOf(second);
            sizes[2] = sizeOf(third);
            this.power = power;
            this.pauses = pauses;
            for (int k = 0; k < RANGES; k++) {
                order[rankOf(k, sizes)] = k;
            }
        }

        static int sizeOf(int exponent) {
            return exponent < 0 ? 0 : 1 << exponent;
        }

        /** How many ranges are laid before range k: the greater ones, and those as great with a lower number. */
        static int rankOf(int k, int[] sizes) {
            int rank = 0;
            for (int other = 0; other < RANGES; other++) {
                if (sizes[other] > sizes[k] || sizes[other] == sizes[k] && other < k) {
                    rank++;
                }
            }
            return rank;
        }

        int sumOfSizes() {
            return sizes[0] + sizes[1] + sizes[2];
        }
    }

    private static final class Card {
        final Bridge bridge;
        final int slot;
        final Type type;
        final int[] begins = new int[RANGES];
        final Request[] queue = new Request[MAX_UNFINISHED];
        int number;
        int state = NEW;
        int reason;
        int unfinished;
        // Those of the first request in the queue that are still to be done; 0 when it is not started.
        int pieces;
        int x;

        Card(Bridge bridge, int slot, Type type) {
            this.bridge = bridge;
            this.slot = slot;
            this.type = type;
        }

        boolean isThere() {
            return state == WORKING || state == PAUSED || state == LEAVING;
        }

        boolean holds(int address) {
            for (int k = 0; k < RANGES; k++) {
                if (address >= begins[k] && address < begins[k] + type.sizes[k]) {
                    return true;
                }
            }
            return false;
        }

        void takeOut(int newState) {
            bridge.cardIn[slot] = null;
            state = newState;
        }

        /** Loses the requests of the queue from a place on; answers how many. */
        int loseFrom(int first) {
            int lost = 0;
            for (int i = first; i < unfinished; i++) {
                queue[i].outcome = LOST;
                queue[i] = null;
                lost++;
            }
            unfinished -= lost;
            if (unfinished == 0) {
                pieces = 0;
            }
            return lost;
        }

        boolean doPiece() {
            if (pieces == 0 && state == WORKING && unfinished > 0) {
                pieces = queue[0].op % 8 + 1;
            }
            if (pieces == 0) {
                return false;
            }
            pieces--;
            if (pieces == 0) {
                finishFirst();
            }
            return true;
        }

        void finishFirst() {
            Request done = queue[0];
            x = 31 * x + done.word;
            done.outcome = x + done.op;
            unfinished--;
            for (int i = 0; i < unfinished; i++) {
                queue[i] = queue[i + 1];
            }
            queue[unfinished] = null;
        }
    }

    private static final class Request {
        final int op;
        final int word;
        long outcome = PENDING;

        Request(int op, int word) {
            this.op = op;
            this.word = word;
        }
    }

    /** Stretches of addresses that are taken, in the order of their beginnings. */
    private static final class Stretches {
        // Four slots have three ranges each at most.
        static final int MOST = SLOTS * RANGES;

        final int[] begins = new int[MOST];
        final int[] ends = new int[MOST];
        int count;

        /** Takes what lies directly in a bridge's opening, but for the opening of one bridge that is left out. */
        void gather(Bridge bridge, Bridge leftOut) {
            count = 0;
            for (int s = 0; s < SLOTS; s++) {
                Bridge below = bridge.bridgeIn[s];
                if (below != null && below != leftOut && !below.isClosed()) {
                    add(below.begin, below.end);
                }
                Card card = bridge.cardIn[s];
                if (card != null && card.isThere()) {
                    addRanges(card);
                }
            }
        }

        void addRanges(Card card) {
            for (int k = 0; k < RANGES; k++) {
                if (card.type.sizes[k] > 0) {
                    add(card.begins[k], card.begins[k] + card.type.sizes[k]);
                }
            }
        }

        void become(Stretches other) {
            System.arraycopy(other.begins, 0, begins, 0, MOST);
            System.arraycopy(other.ends, 0, ends, 0, MOST);
            count = other.count;
        }

        void add(int begin, int end) {
            if (count == MOST) {
                return;
            }
            int i = count;
            while (i > 0 && begins[i - 1] > begin) {
                begins[i] = begins[i - 1];
                ends[i] = ends[i - 1];
                i--;
            }
            begins[i] = begin;
            ends[i] = end;
            count++;
        }

        boolean isFree(int begin, int end) {
            for (int i = 0; i < count; i++) {
                if (begins[i] < end && begin < ends[i]) {
                    return false;
                }
            }
            return true;
        }

        /** The place for a range in the smallest hole between from and to that has one; NONE if none has. */
        int placeFor(int size, int from, int to) {
            int best = NONE;
            int bestLength = 0;
            for (int i = 0; i <= count; i++) {
                int begin = i > 0 ? ends[i - 1] : from;
                int end = i < count ? begins[i] : to;
                int at = (begin + size - 1) & -size;
                if (at + size <= end && (best == NONE || end - begin < bestLength)) {
                    best = at;
                    bestLength = end - begin;
                }
            }
            return best;
        }
    }
}
