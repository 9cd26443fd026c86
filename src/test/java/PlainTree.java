import java.util.ArrayList;
import java.util.Comparator;
import java.util.List;
import java.util.Objects;

/**
 * The document once more, told as directly as the Java library allows and without a thought of cost: addresses are
 * painted one by one and packing is a recursion. RandomRunsTest holds PlugTree against it.
 */
final class PlainTree {
    static final class Kind {
        int[] sizes;
        int power;
        boolean pauses;
    }

    static final class Ask {
        int op;
        int word;
        int left = -1;
        long result = 1L << 40;
    }

    static final class Plugged {
        int number;
        Kind kind;
        Node bridge;
        String state = "NEW";
        int reason;
        boolean checked;
        int x;
        int[] at = {-1, -1, -1};
        List<Ask> open = new ArrayList<>();

        boolean there() {
            return List.of("WORKING", "PAUSED", "LEAVING").contains(state);
        }

        boolean started() {
            return open.stream().anyMatch(a -> a.left >= 0);
        }
    }

    static final class Node {
        int number;
        Node parent;
        int limit;
        int lo;
        int hi;
        Object[] slots = new Object[4];

        int depth() {
            return parent == null ? 0 : 1 + parent.depth();
        }
    }

    /** Something to lay in packing: a range of a card or the block of a bridge. */
    record Item(int size, int slot, int k, Plugged card, Node bridge) {
    }

    /** What the runs have come by, so that a test can see that they were not all of one kind. */
    int fitted, grown, opened, refusedPower, refusedNeighbour, refusedRoom;
    int paused, movedAll, waitedForRequest, unpaused;

    private static final List<String> STATES = List.of("NEW", "WORKING", "PAUSED", "LEAVING", "GONE", "REFUSED");
    private final List<Node> nodes = new ArrayList<>();
    private final List<Kind> kinds = new ArrayList<>();
    private final List<Plugged> plugged = new ArrayList<>();
    private final List<Ask> asks = new ArrayList<>();
    private int moved;

    PlainTree() {
        Node root = new Node();
        root.limit = 1000;
        root.hi = 4096;
        nodes.add(root);
    }

    int bridge(int parent, int slot, int limit) {
        argument(parent >= 0 && parent < nodes.size() && slot >= 0 && slot < 4 && limit >= 0 && limit <= 1000);
        Node above = nodes.get(parent);
        state(above.slots[slot] == null && nodes.size() < 8 && above.depth() < 4 && fresh() == null);
        Node added = new Node();
        added.number = nodes.size();
        added.parent = above;
        added.limit = limit;
        above.slots[slot] = added;
        nodes.add(added);
        return added.number;
    }

    int type(int first, int second, int third, int power, boolean pauses) {
        Kind kind = new Kind();
        kind.sizes = new int[] {first, second, third};
        for (int k = 0; k < 3; k++) {
            argument(kind.sizes[k] >= -1 && kind.sizes[k] <= 10);
            kind.sizes[k] = kind.sizes[k] == -1 ? 0 : (int) Math.pow(2, kind.sizes[k]);
        }
        argument(power >= 0 && power <= 1000);
        state(kinds.size() < 16);
        kind.power = power;
        kind.pauses = pauses;
        kinds.add(kind);
        return kinds.size() - 1;
    }

    int plug(int bridge, int slot, int type) {
        argument(bridge >= 0 && bridge < nodes.size() && slot >= 0 && slot < 4 && type >= 0 && type < kinds.size());
        state(nodes.get(bridge).slots[slot] == null && plugged.size() < 40 && fresh() == null);
        Plugged card = new Plugged();
        card.number = plugged.size();
        card.kind = kinds.get(type);
        card.bridge = nodes.get(bridge);
        card.bridge.slots[slot] = card;
        plugged.add(card);
        return card.number;
    }

    boolean step() {
        boolean changed = false;
        for (Plugged card : plugged) {
            if (card.state.equals("LEAVING") && !card.started()) {
                out(card, "GONE");
                changed = true;
            }
        }
        Plugged card = fresh();
        if (card == null) {
            return changed;
        }
        if (card.checked) {
            if (there().stream().anyMatch(Plugged::started)) {
                waitedForRequest++;
                return changed;
            }
            moveWith(card);
        } else {
            check(card);
        }
        return true;
    }

    int settle() {
        int n = 0;
        while (step()) {
            n++;
        }
        return n;
    }

    int pull(int card) {
        Plugged c = numbered(card);
        state(!c.state.equals("GONE") && !c.state.equals("REFUSED"));
        if (c.state.equals("NEW") && c.checked) {
            unpaused++;
            turn("PAUSED", "WORKING");
        }
        out(c, "GONE");
        return lose(c, c.open);
    }

    int leave(int card) {
        Plugged c = numbered(card);
        state(c.state.equals("WORKING"));
        c.state = "LEAVING";
        return lose(c, c.open.stream().filter(a -> a.left < 0).toList());
    }

    int request(int card, int op, int word) {
        Plugged c = numbered(card);
        argument(op >= 0);
        state((c.state.equals("WORKING") || c.state.equals("PAUSED")) && c.open.size() < 8);
        Ask ask = new Ask();
        ask.op = op;
        ask.word = word;
        c.open.add(ask);
        asks.add(ask);
        return asks.size() - 1;
    }

    boolean work(int card) {
        Plugged c = numbered(card);
        if (!c.started() && c.state.equals("WORKING") && !c.open.isEmpty()) {
            c.open.get(0).left = Math.floorMod(c.open.get(0).op, 8) + 1;
        }
        if (!c.started()) {
            return false;
        }
        Ask ask = c.open.get(0);
        ask.left--;
        if (ask.left == 0) {
            c.x = 31 * c.x + ask.word;
            int result = c.x + ask.op;
            ask.result = result;
            c.open.remove(0);
        }
        return true;
    }

    long result(int ticket) {
        argument(ticket >= 0 && ticket < asks.size());
        return asks.get(ticket).result;
    }

    int card(int card, int what) {
        Plugged c = numbered(card);
        argument(what >= 0 && what <= 3);
        return switch (what) {
            case 0 -> STATES.indexOf(c.state);
            case 1 -> c.reason;
            case 2 -> c.open.size();
            default -> c.started() ? c.open.get(0).left : 0;
        };
    }

    int range(int card, int k) {
        Plugged c = numbered(card);
        argument(k >= 0 && k <= 2);
        return c.there() && c.kind.sizes[k] > 0 ? c.at[k] : -1;
    }

    int opening(int bridge, boolean end) {
        argument(bridge >= 0 && bridge < nodes.size());
        return end ? nodes.get(bridge).hi : nodes.get(bridge).lo;
    }

    int decode(int address) {
        for (Plugged c : there()) {
            for (int k = 0; k < 3; k++) {
                if (c.kind.sizes[k] > 0 && address >= c.at[k] && address - c.at[k] < c.kind.sizes[k]) {
                    return c.number;
                }
            }
        }
        return -1;
    }

    int power(int bridge) {
        argument(bridge >= 0 && bridge < nodes.size());
        return used(nodes.get(bridge));
    }

    int slot(int bridge, int slot) {
        argument(bridge >= 0 && bridge < nodes.size() && slot >= 0 && slot < 4);
        Object inside = nodes.get(bridge).slots[slot];
        if (inside instanceof Node n) {
            return n.number;
        }
        return inside instanceof Plugged c ? 100 + c.number : -1;
    }

    int moved() {
        return moved;
    }

    int bridgeCount() {
        return nodes.size();
    }

    int cardCount() {
        return plugged.size();
    }

    int ticketCount() {
        return asks.size();
    }

    /** What the document says of all cards there and all openings at all times; null, or what is broken. */
    String broken() {
        for (Node n : nodes) {
            if (n.lo % 64 != 0 || n.hi % 64 != 0 || (n.lo == n.hi && n.lo != 0)) {
                return "opening of bridge " + n.number;
            }
            boolean[] seen = new boolean[4096];
            for (int[] stretch : contents(n, null)) {
                for (int a = stretch[0]; a < stretch[1]; a++) {
                    if (a < n.lo || a >= n.hi || seen[a]) {
                        return "address " + a + " of bridge " + n.number;
                    }
                    seen[a] = true;
                }
            }
            if (used(n) > n.limit) {
                return "power of bridge " + n.number;
            }
        }
        for (Plugged c : there()) {
            for (int k = 0; k < 3; k++) {
                if (c.kind.sizes[k] > 0 && c.at[k] % c.kind.sizes[k] != 0) {
                    return "beginning of a range of card " + c.number;
                }
            }
        }
        return null;
    }

    private void check(Plugged card) {
        for (Node n = card.bridge; n != null; n = n.parent) {
            if (used(n) + card.kind.power > n.limit) {
                refusedPower++;
                refuse(card, 1);
                return;
            }
        }
        int[] found = fit(card, card.bridge.lo, card.bridge.hi);
        if (found != null) {
            fitted++;
        } else {
            found = grow(card);
        }
        if (found != null) {
            card.at = found;
            card.state = "WORKING";
        } else if (there().stream().anyMatch(c -> !c.kind.pauses)) {
            refusedNeighbour++;
            refuse(card, 2);
        } else if (sum(nodes.get(0)) > 4096) {
            refusedRoom++;
            refuse(card, 3);
        } else {
            paused++;
            turn("WORKING", "PAUSED");
            card.checked = true;
        }
    }

    private int[] fit(Plugged card, int lo, int hi) {
        boolean[] taken = paint(card.bridge, null);
        int[] found = {-1, -1, -1};
        List<Integer> order = new ArrayList<>(List.of(0, 1, 2));
        order.sort(Comparator.comparing((Integer k) -> -card.kind.sizes[k]).thenComparing(k -> k));
        for (int k : order) {
            int size = card.kind.sizes[k];
            if (size == 0) {
                continue;
            }
            int shortest = Integer.MAX_VALUE;
            for (int a = lo; a < hi; a++) {
                if (taken[a] || (a > lo && !taken[a - 1])) {
                    continue;
                }
                int end = a;
                while (end < hi && !taken[end]) {
                    end++;
                }
                int place = a;
                while (place % size != 0) {
                    place++;
                }
                if (place + size <= end && end - a < shortest) {
                    shortest = end - a;
                    found[k] = place;
                }
            }
            if (found[k] == -1) {
                return null;
            }
            for (int a = found[k]; a < found[k] + size; a++) {
                taken[a] = true;
            }
        }
        return found;
    }

    private int[] grow(Plugged card) {
        Node own = card.bridge;
        if (own.parent == null) {
            return null;
        }
        boolean[] taken = paint(own.parent, own);
        boolean empty = own.lo == own.hi;
        for (int lo = empty ? own.parent.lo : own.lo; lo < own.parent.hi; lo += 64) {
            int hi = empty ? lo : own.hi;
            while (hi < own.parent.hi && free(taken, hi)) {
                hi += 64;
                int[] found = fit(card, lo, hi);
                if (found != null) {
                    own.lo = lo;
                    own.hi = hi;
                    grown++;
                    opened += empty ? 1 : 0;
                    return found;
                }
            }
            if (!empty) {
                return null;
            }
        }
        return null;
    }

    private static boolean free(boolean[] taken, int from) {
        for (int a = from; a < from + 64; a++) {
            if (taken[a]) {
                return false;
            }
        }
        return true;
    }

    private List<int[]> contents(Node n, Node but) {
        List<int[]> all = new ArrayList<>();
        for (Object inside : n.slots) {
            if (inside instanceof Node below && below != but) {
                all.add(new int[] {below.lo, below.hi});
            } else if (inside instanceof Plugged c && c.there()) {
                for (int k = 0; k < 3; k++) {
                    all.add(new int[] {c.at[k], c.at[k] + c.kind.sizes[k]});
                }
            }
        }
        all.removeIf(stretch -> stretch[0] == stretch[1]);
        return all;
    }

    private boolean[] paint(Node n, Node but) {
        boolean[] taken = new boolean[4096];
        for (int[] stretch : contents(n, but)) {
            for (int a = stretch[0]; a < stretch[1]; a++) {
                taken[a] = true;
            }
        }
        return taken;
    }

    private void moveWith(Plugged card) {
        movedAll++;
        moved = 0;
        lay(nodes.get(0), card);
        turn("PAUSED", "WORKING");
        card.state = "WORKING";
    }

    private List<Item> items(Node n) {
        List<Item> items = new ArrayList<>();
        for (int s = 0; s < 4; s++) {
            if (n.slots[s] instanceof Node below) {
                items.add(new Item(block(below), s, 0, null, below));
            } else if (n.slots[s] instanceof Plugged c) {
                for (int k = 0; k < 3; k++) {
                    items.add(new Item(c.kind.sizes[k], s, k, c, null));
                }
            }
        }
        items.sort(Comparator.comparing((Item i) -> -i.size).thenComparing(Item::slot).thenComparing(Item::k));
        return items;
    }

    private int sum(Node n) {
        return items(n).stream().mapToInt(Item::size).sum();
    }

    private int block(Node n) {
        int sum = sum(n);
        int block = 64;
        while (block < sum) {
            block += block;
        }
        return sum == 0 ? 0 : block;
    }

    private void lay(Node n, Plugged joining) {
        int at = n.lo;
        for (Item i : items(n)) {
            if (i.bridge != null) {
                i.bridge.lo = i.size == 0 ? 0 : at;
                i.bridge.hi = i.size == 0 ? 0 : at + i.size;
                lay(i.bridge, joining);
            } else if (i.size > 0) {
                moved += i.card != joining && i.card.at[i.k] != at ? 1 : 0;
                i.card.at[i.k] = at;
            }
            at += i.size;
        }
    }

    private int used(Node n) {
        int sum = 0;
        for (Object inside : n.slots) {
            if (inside instanceof Node below) {
                sum += used(below);
            } else if (inside instanceof Plugged c && c.there()) {
                sum += c.kind.power;
            }
        }
        return sum;
    }

    private Plugged fresh() {
        return plugged.stream().filter(c -> c.state.equals("NEW")).findFirst().orElse(null);
    }

    private List<Plugged> there() {
        return plugged.stream().filter(Plugged::there).toList();
    }

    private void turn(String from, String to) {
        plugged.stream().filter(c -> c.state.equals(from)).forEach(c -> c.state = to);
    }

    private void refuse(Plugged card, int reason) {
        card.reason = reason;
        out(card, "REFUSED");
    }

    private void out(Plugged card, String state) {
        card.state = state;
        for (int s = 0; s < 4; s++) {
            if (Objects.equals(card.bridge.slots[s], card)) {
                card.bridge.slots[s] = null;
            }
        }
    }

    private static int lose(Plugged card, List<Ask> those) {
        List<Ask> lost = List.copyOf(those);
        lost.forEach(a -> a.result = 1L << 41);
        card.open.removeAll(lost);
        return lost.size();
    }

    private Plugged numbered(int card) {
        argument(card >= 0 && card < plugged.size());
        return plugged.get(card);
    }

    private static void argument(boolean fine) {
        if (!fine) {
            throw new IllegalArgumentException();
        }
    }

    private static void state(boolean fine) {
        if (!fine) {
            throw new IllegalStateException();
        }
    }
}
