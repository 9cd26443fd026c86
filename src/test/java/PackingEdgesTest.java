/** The sentences of "PACKING" at their edges. */
public final class PackingEdgesTest {
    private PackingEdgesTest() {
    }

    public static void main(String[] args) {
        blocksAreJustLargeEnough();
        aBlockOf4096IsJustFull();
        blocksOfBlocks();
        nothingToLay();
        nothingToLayFarBelow();
        theGreatestFirst();
        ofTheSameSizeBySlots();
        ofACardByItsRangesNumbers();
        fromTheBeginningOfItsOpening();
        thoseThereAndItAlone();
        blocksAtTheTimeOfTheMoving();
        Check.end();
    }

    private static void checkOpening(String what, PlugTree x, int bridge, int begin, int end) {
        Check.due(what + ", begins", begin, x.opening(bridge, false));
        Check.due(what + ", ends", end, x.opening(bridge, true));
    }

    private static void blocksAreJustLargeEnough() {
        Check.sentence("The block of a bridge is the least of 64, 128, 256, .. that is not less than all that it lays");
        int[][] exponents = {{0, -1, -1}, {5, 4, 3}, {5, 5, -1}, {5, 4, 4}, {6, -1, -1}, {5, 5, 0}, {6, 0, -1},
            {6, 6, -1}, {7, -1, -1}, {6, 6, 0}, {7, 0, -1}, {7, 6, 6}, {8, -1, -1}, {8, 0, -1}, {9, -1, -1},
            {0, 9, -1}, {10, -1, -1}, {9, 9, 0}, {10, -1, 0}, {10, 9, 9}, {10, 10, -1}, {10, 10, 0}, {10, 10, 10}};
        int[] blocks = {64, 64, 64, 64, 64, 128, 128, 128, 128, 256, 256, 256, 256, 512, 512, 1024, 1024, 2048, 2048,
            2048, 2048, 4096, 4096};
        for (int i = 0; i < exponents.length; i++) {
            PlugTree x = Scenes.chain();
            x.type(exponents[i][0], exponents[i][1], exponents[i][2], 0, true);
            x.plug(4, 0, 0);
            Check.due("checked and moved, type " + i, 2, x.settle());
            for (int b = 1; b <= 4; b++) {
                checkOpening("type " + i + ", bridge " + b, x, b, 0, blocks[i]);
            }
        }
    }

    private static void aBlockOf4096IsJustFull() {
        Check.sentence("that is not less than all that it lays together");
        for (int more = 0; more <= 1; more++) {
            PlugTree x = Scenes.chain();
            x.type(9, -1, -1, 0, true);
            x.type(10, 10, 10, 0, true);
            x.type(more - 1, -1, -1, 0, true);
            for (int s = 0; s < 3; s++) {
                Scenes.settled(x, 4, s, 0);
            }
            checkOpening("1536 addresses", x, 4, 0, 2048);
            x.pull(1);
            Scenes.settled(x, 4, 1, 2);
            int last = Scenes.settled(x, 4, 3, 1);
            Check.due("4096 and " + more, more == 0 ? PlugTree.WORKING : PlugTree.REFUSED, x.card(last, 0));
            Check.due("for", more == 0 ? 0 : PlugTree.ROOM, x.card(last, 1));
            checkOpening("4096 and " + more, x, 4, 0, more == 0 ? 4096 : 2048);
            Check.due("the last address", more == 0 ? 2 : PlugTree.NONE, x.decode(4095));
        }
    }

    private static void blocksOfBlocks() {
        Check.sentence("and the BLOCKS of bridges in them");
        PlugTree x = new PlugTree();
        x.type(0, -1, -1, 0, true);
        x.bridge(0, 0, 1000);
        for (int s = 0; s < 3; s++) {
            x.bridge(1, s, 1000);
        }
        Scenes.settled(x, 2, 0, 0);
        checkOpening("a block of 64 alone", x, 1, 0, 64);
        Scenes.settled(x, 3, 0, 0);
        checkOpening("two of 64", x, 1, 0, 128);
        Scenes.settled(x, 4, 0, 0);
        checkOpening("three of 64", x, 1, 0, 256);
        checkOpening("by slots", x, 2, 0, 64);
        checkOpening("by slots", x, 3, 64, 128);
        checkOpening("by slots", x, 4, 128, 192);
        Scenes.settled(x, 1, 3, 0);
        Check.due("one address fits behind", 192, x.range(3, 0));
        checkOpening("three of 64 and one address", x, 1, 0, 256);
        x.type(6, 6, -1, 0, true);
        Scenes.settled(x, 4, 1, 1);
        checkOpening("a block of 256, two of 64 and one address", x, 1, 0, 512);
        checkOpening("the greatest first", x, 4, 0, 256);
        checkOpening("then by slots", x, 2, 256, 320);
        checkOpening("then by slots", x, 3, 320, 384);
        Check.due("then the one address", 384, x.range(3, 0));
    }

    private static void nothingToLay() {
        Check.sentence("with nothing to lay it has none, and its opening is empty (from 0 to 0)");
        PlugTree x = new PlugTree();
        x.type(7, -1, -1, 0, true);
        x.type(-1, -1, -1, 0, true);
        x.bridge(0, 0, 1000);
        x.bridge(0, 1, 1000);
        x.bridge(0, 2, 1000);
        x.bridge(3, 0, 1000);
        Scenes.settled(x, 1, 0, 0);
        Scenes.settled(x, 2, 0, 0);
        checkOpening("with a card", x, 1, 0, 128);
        checkOpening("with a card", x, 2, 128, 256);
        x.pull(0);
        x.pull(1);
        Scenes.settled(x, 2, 1, 1);
        checkOpening("when its card is GONE", x, 1, 0, 128);
        checkOpening("with one without ranges", x, 2, 128, 256);
        Scenes.settled(x, 4, 0, 0);
        checkOpening("after all was moved, with no card", x, 1, 0, 0);
        checkOpening("after all was moved, with one without ranges", x, 2, 0, 0);
        checkOpening("with a block of its own", x, 3, 0, 128);
        Check.due("the one without ranges works", PlugTree.WORKING, x.card(2, 0));
        // It is EMPTY as at first: the beginnings are tried again.
        Scenes.settled(x, 2, 2, 0);
        checkOpening("opened again", x, 2, 128, 256);
        Check.due("by growing", PlugTree.WORKING, x.card(4, 0));
    }

    private static void nothingToLayFarBelow() {
        Check.sentence("with nothing to lay it has none");
        PlugTree x = Scenes.chain();
        x.type(6, -1, -1, 0, true);
        x.type(-1, -1, -1, 0, true);
        x.bridge(0, 1, 1000);
        x.bridge(5, 0, 1000);
        Scenes.settled(x, 4, 0, 0);
        for (int b = 1; b <= 4; b++) {
            checkOpening("opened", x, b, 0, 64);
        }
        x.pull(0);
        Scenes.settled(x, 4, 1, 1);
        Scenes.settled(x, 6, 0, 0);
        for (int b = 1; b <= 4; b++) {
            checkOpening("bridges with bridges that have none", x, b, 0, 0);
        }
        checkOpening("the other", x, 5, 0, 64);
        checkOpening("the other", x, 6, 0, 64);
        Check.due("no range of those there", 0, x.moved());
    }

    private static void theGreatestFirst() {
        Check.sentence("the ranges of cards in its slots, and the BLOCKS of bridges in them, the greatest first");
        PlugTree x = new PlugTree();
        x.type(5, 8, 6, 0, true);
        x.type(10, 10, 0, 0, true);
        x.type(7, 9, -1, 0, true);
        x.bridge(0, 1, 1000);
        x.bridge(1, 0, 1000);
        Scenes.settled(x, 0, 0, 0);
        Scenes.settled(x, 0, 2, 2);
        // The block of 2049 addresses has no place.
        Check.due("no room for 4096 and more", PlugTree.ROOM, x.card(Scenes.settled(x, 2, 3, 1), 1));
        x.type(10, 10, -1, 0, true);
        Scenes.settled(x, 2, 3, 3);
        checkOpening("2048", x, 1, 0, 2048);
        checkOpening("2048 below", x, 2, 0, 2048);
        int[] begins = {2048, 2560, 2816, 2944, 3008};
        int[] found = {x.range(1, 1), x.range(0, 1), x.range(1, 0), x.range(0, 2), x.range(0, 0)};
        for (int i = 0; i < begins.length; i++) {
            Check.due("range of " + (512 >> i), begins[i], found[i]);
        }
        Check.due("behind the last", PlugTree.NONE, x.decode(3040));
        Check.due("the last", 0, x.decode(3039));
    }

    private static void ofTheSameSizeBySlots() {
        Check.sentence("of the same size by slots");
        PlugTree x = new PlugTree();
        x.type(6, -1, -1, 0, true);
        x.bridge(0, 2, 1000);
        x.bridge(1, 3, 1000);
        x.bridge(0, 0, 1000);
        Scenes.settled(x, 0, 3, 0);
        Scenes.settled(x, 0, 1, 0);
        Scenes.settled(x, 3, 1, 0);
        checkOpening("before", x, 3, 128, 192);
        Scenes.settled(x, 2, 2, 0);
        checkOpening("slot 0, a bridge", x, 3, 0, 64);
        Check.due("slot 1, a card", 64, x.range(1, 0));
        checkOpening("slot 2, a bridge", x, 1, 128, 192);
        Check.due("slot 3, a card", 192, x.range(0, 0));
        Check.due("two of those there; the one in slot 1 stays", 2, x.moved());
    }

    private static void ofACardByItsRangesNumbers() {
        Check.sentence("of a card by its ranges' numbers");
        PlugTree x = Scenes.chain();
        x.type(3, 4, 3, 0, true);
        x.type(4, 3, 4, 0, true);
        Scenes.settled(x, 4, 2, 0);
        x.type(5, 5, 5, 0, true);
        Scenes.settled(x, 4, 1, 1);
        Scenes.settled(x, 4, 0, 2);
        int[][] due = {{152, 128, 160}, {96, 144, 112}, {0, 32, 64}};
        checkOpening("together 168", x, 4, 0, 256);
        for (int c = 0; c < 3; c++) {
            for (int k = 0; k < 3; k++) {
                Check.due("card " + c + ", range " + k, due[c][k], x.range(c, k));
            }
        }
    }

    private static void fromTheBeginningOfItsOpening() {
        Check.sentence("one behind the other from the beginning of its opening");
        PlugTree x = new PlugTree();
        x.type(9, -1, -1, 0, true);
        x.type(7, 6, -1, 0, true);
        x.type(5, -1, -1, 0, true);
        x.bridge(0, 1, 1000);
        x.bridge(1, 1, 1000);
        x.bridge(2, 1, 1000);
        Scenes.settled(x, 0, 0, 0);
        Scenes.settled(x, 3, 0, 1);
        checkOpening("depth 1", x, 1, 512, 768);
        checkOpening("depth 2", x, 2, 512, 768);
        checkOpening("depth 3", x, 3, 512, 768);
        Check.due("128", 512, x.range(1, 0));
        Check.due("64 behind it", 640, x.range(1, 1));
        Scenes.settled(x, 3, 1, 2);
        Check.due("32 fit behind it", 704, x.range(2, 0));
        Scenes.settled(x, 3, 2, 1);
        Check.due("416 lie in a block of 512", 0, x.range(0, 0));
        checkOpening("of the same size by slots", x, 3, 512, 1024);
        int[] begins = {512, 640, 768, 832, 896};
        int[] found = {x.range(1, 0), x.range(3, 0), x.range(1, 1), x.range(3, 1), x.range(2, 0)};
        for (int i = 0; i < begins.length; i++) {
            Check.due("in it", begins[i], found[i]);
        }
    }

    private static void thoseThereAndItAlone() {
        Check.sentence("openings and ranges of all cards there and of it are those of PACKING");
        PlugTree x = Scenes.checked();
        // Card 2 is pulled after the check: packing has nothing of it, nor of those GONE and REFUSED before.
        x.pull(2);
        for (int i = 0; i < 3; i++) {
            x.work(0);
        }
        Check.due("moved", true, x.step());
        Check.due("it", 0, x.range(4, 0));
        Check.due("the one there", 3072, x.range(0, 0));
        Check.due("nothing behind", PlugTree.NONE, x.decode(3584));
        Check.due("its bridge's power", 2, x.power(0));
        Check.due("one range", 1, x.moved());
        for (int c = 1; c <= 3; c++) {
            Check.due("no range of card " + c, PlugTree.NONE, x.range(c, 0));
        }
    }

    private static void blocksAtTheTimeOfTheMoving() {
        Check.sentence("those of PACKING (when all is moved, not when it was CHECKED)");
        PlugTree x = new PlugTree();
        x.type(8, -1, -1, 0, true);
        x.type(6, -1, -1, 0, true);
        x.bridge(0, 0, 1000);
        x.bridge(1, 0, 1000);
        x.bridge(0, 1, 1000);
        Scenes.settled(x, 1, 1, 0);
        Scenes.settled(x, 3, 0, 0);
        Scenes.settled(x, 1, 2, 1);
        checkOpening("block of 512", x, 1, 0, 512);
        checkOpening("the other", x, 3, 512, 768);
        x.request(1, 1, 0);
        x.work(1);
        x.leave(1);
        x.plug(2, 0, 0);
        x.step();
        Check.due("no place below", PlugTree.NEW, x.card(3, 0));
        // One is pulled after the check and one is GONE in the step that moves: 320 need no 1024 any more.
        x.pull(0);
        x.work(1);
        Check.due("GONE and moved", true, x.step());
        checkOpening("256 and 64", x, 1, 0, 512);
        checkOpening("256", x, 2, 0, 256);
        checkOpening("nothing to lay", x, 3, 0, 0);
        Check.due("64", 256, x.range(2, 0));
    }
}
