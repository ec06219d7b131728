/** Promises 2 to 5: set, send, empty, read. */
public final class StonesTest {
    private static final Check check = new Check();

    public static void main(String[] args) {
        settings();
        settingsDoNotSink();
        sendErrors();
        doubles();
        doublesBehindAPiece();
        withoutDoubles();
        aJoinedStoneSinksWhatIsTooMuch();
        piecesAreCut();
        theHeaviestChildSinksFirst();
        whatIsLeftBecomesOneWithNone();
        threeRoundsMayBeNeeded();
        theMostPartsInOneBuffer();
        stonesJoinBelow();
        emptyGivesAllToAllChildren();
        emptyLowNode();
        emptyErrors();
        reading();
        check.finish();
    }

    private static void settings() {
        StoneTree tree = new StoneTree();
        check.due("set(0, 1)", tree.set(0, 1), 4);
        check.due("set(0, 10)", tree.set(0, 10), 1);
        check.due("count(8)", tree.count(8), 10);
        check.due("set(1, 0)", tree.set(1, 0), 1);
        check.due("set(1, 1)", tree.set(1, 1), 0);
        check.due("count(9)", tree.count(9), 1);
        check.due("count(7)", tree.count(7), 4);
        int[][] wrong = {{0, 0}, {0, 11}, {1, 2}, {1, -1}, {2, 1}, {-1, 1}, {Integer.MAX_VALUE, 1},
            {0, Integer.MIN_VALUE}, {0, Integer.MAX_VALUE}, {Integer.MIN_VALUE, 1}};
        for (int[] call : wrong) {
            check.error(tree, "set(" + call[0] + ", " + call[1] + ")", () -> tree.set(call[0], call[1]), -2);
        }
    }

    private static void settingsDoNotSink() {
        StoneTree tree = new StoneTree();
        for (int key = 0; key < 4; key++) {
            tree.send(1, key, key, 1);
        }
        tree.set(0, 1);
        check.due("stones in the root", tree.ofNode(0, 0), 4);
        check.due("went down", tree.count(2), 0);
    }

    private static void sendErrors() {
        StoneTree tree = new StoneTree();
        tree.send(0, 3, 3, 5);
        int[][] badValue = {{-1, 3, 3, 0}, {3, 3, 3, 0}, {0, 3, 3, -1}, {0, 3, 3, 1000}, {1, 3, 4, 1000}, {2, 3, 3, 1},
            {2, 3, 3, -1}, {3, 27, 27, 0}, {0, 27, 27, 1000}, {Integer.MAX_VALUE, 0, 0, 0},
            {1, 0, 0, Integer.MIN_VALUE}};
        for (int[] c : badValue) {
            check.error(tree, "send " + c[0] + ' ' + c[1] + ' ' + c[2] + ' ' + c[3],
                () -> tree.send(c[0], c[1], c[2], c[3]), -2);
        }
        int[][] noSuch = {{0, 27, 27, 0}, {0, -1, -1, 0}, {1, 0, 27, 0}, {1, -1, 5, 0}, {1, 5, 4, 0}, {0, 3, 4, 0},
            {0, 4, 3, 0}, {2, 3, 4, 0}, {2, 4, 3, 0}, {1, 26, Integer.MAX_VALUE, 0}, {1, Integer.MIN_VALUE, 0, 0}};
        for (int[] c : noSuch) {
            check.error(tree, "send " + c[0] + ' ' + c[1] + ' ' + c[2] + ' ' + c[3],
                () -> tree.send(c[0], c[1], c[2], c[3]), -1);
        }
        check.due("send ADD to all", tree.send(1, 0, 26, 999), 2);
        check.due("send SET 26", tree.send(0, 26, 26, 999), 3);
        check.due("send ERASE 0", tree.send(2, 0, 0, 0), 4);
    }

    private static void doubles() {
        StoneTree tree = new StoneTree();
        check.due("SET 5", tree.send(0, 5, 5, 10), 1);
        check.due("SET 6", tree.send(0, 6, 6, 1), 2);
        check.due("SET 5 again", tree.send(0, 5, 5, 20), 2);
        check.due("a SET takes the place", Check.buffer(tree, 0), "=6-6:1 =5-5:20");
        check.due("ADD 6", tree.send(1, 6, 6, 999), 2);
        check.due("an ADD is added", Check.buffer(tree, 0), "=6-6:0 =5-5:20");
        check.due("ADD 7", tree.send(1, 7, 7, 600), 3);
        check.due("ADD 7 again", tree.send(1, 7, 7, 600), 3);
        check.due("an ADD behind an ADD", Check.buffer(tree, 0), "=6-6:0 =5-5:20 +7-7:200");
        check.due("ERASE 6", tree.send(2, 6, 6, 0), 3);
        check.due("an ERASE takes the place", Check.buffer(tree, 0), "=5-5:20 +7-7:200 x6-6:0");
        check.due("ADD 6", tree.send(1, 6, 6, 9), 3);
        check.due("an ADD behind an ERASE", Check.buffer(tree, 0), "=5-5:20 +7-7:200 x6-6:0");
        check.due("ERASE 6 again", tree.send(2, 6, 6, 0), 3);
        check.due("SET 6", tree.send(0, 6, 6, 3), 3);
        check.due("joined", tree.ofNode(0, 5), 7);
        check.due("sent", tree.count(1), 10);
        check.due("went down", tree.count(2), 0);
    }

    private static void doublesBehindAPiece() {
        StoneTree tree = new StoneTree();
        tree.send(0, 5, 5, 10);
        tree.send(1, 4, 5, 1);
        check.due("SET behind a piece", tree.send(0, 5, 5, 7), 3);
        check.due("the buffer", Check.buffer(tree, 0), "=5-5:10 +4-5:1 =5-5:7");
        check.due("a piece becomes one with none", tree.send(1, 4, 5, 1), 4);
        check.due("joined", tree.ofNode(0, 5), 0);
        check.due("the fifth stone: all sink to node 5", tree.send(0, 3, 3, 1), 3);
        check.due("leaf 5", tree.ofKey(5, 0), 8);
        check.due("node 5", Check.buffer(tree, 5), "+4-4:1 +4-4:1 =3-3:1");
        StoneTree other = new StoneTree();
        other.send(0, 5, 5, 10);
        other.send(1, 6, 8, 1);
        other.send(0, 4, 4, 1);
        check.due("a piece that has other keys is not in the way", other.send(1, 5, 5, 7), 3);
        check.due("its buffer", Check.buffer(other, 0), "=5-5:17 +6-8:1 =4-4:1");
    }

    private static void withoutDoubles() {
        StoneTree tree = new StoneTree();
        tree.set(1, 0);
        tree.send(0, 5, 5, 1);
        tree.send(0, 5, 5, 2);
        check.due("three stones", tree.send(1, 5, 5, 3), 3);
        tree.set(1, 1);
        check.due("the last of them alone", tree.send(0, 5, 5, 9), 3);
        check.due("the buffer", Check.buffer(tree, 0), "=5-5:1 =5-5:2 =5-5:9");
    }

    private static void aJoinedStoneSinksWhatIsTooMuch() {
        StoneTree tree = new StoneTree();
        for (int key = 0; key < 4; key++) {
            tree.send(0, key, key, key);
        }
        tree.set(0, 1);
        check.due("ADD 0", tree.send(1, 0, 0, 100), 2);
        check.due("node 0", Check.buffer(tree, 0), "");
        check.due("node 1", Check.buffer(tree, 1), "=3-3:3");
        check.due("node 4", Check.buffer(tree, 4), "=2-2:2");
        check.due("leaf 0", tree.ofKey(0, 0), 100);
        check.due("leaf 1", tree.ofKey(1, 0), 1);
        check.due("went down", tree.count(2), 9);
        check.due("applied", tree.count(3), 2);
        check.due("node 1 gave twice", tree.ofNode(1, 3), 2);
        check.due("node 1 gave three", tree.ofNode(1, 4), 3);
    }

    private static void piecesAreCut() {
        StoneTree tree = new StoneTree();
        tree.set(0, 1);
        tree.send(1, 3, 20, 5);
        check.due("SET 12", tree.send(0, 12, 12, 4), 5);
        check.due("node 0", Check.buffer(tree, 0), "+18-20:5");
        check.due("node 1", Check.buffer(tree, 1), "+3-8:5");
        check.due("node 2", Check.buffer(tree, 2), "+15-17:5");
        check.due("node 7", Check.buffer(tree, 7), "+9-11:5");
        check.due("node 8", Check.buffer(tree, 8), "+13-14:5");
        check.due("node 0 gave", tree.ofNode(0, 4), 3);
        check.due("node 0 gave twice", tree.ofNode(0, 3), 2);
        check.due("node 2 gave", tree.ofNode(2, 4), 3);
        check.due("node 2 gave to two", tree.ofNode(2, 3), 2);
        check.due("went down", tree.count(2), 8);
        check.due("applied", tree.count(3), 2);
        check.due("leaf 12", tree.ofKey(12, 0), 4);
    }

    private static void theHeaviestChildSinksFirst() {
        StoneTree tree = new StoneTree();
        tree.send(0, 0, 0, 1);
        tree.send(0, 26, 26, 1);
        tree.send(0, 25, 25, 1);
        tree.send(0, 9, 9, 1);
        check.due("the fifth stone", tree.send(1, 8, 9, 2), 6);
        check.due("of several the first child", Check.buffer(tree, 0), "=26-26:1 =25-25:1 =9-9:1 +9-9:2");
        check.due("SET 10", tree.send(0, 10, 10, 3), 6);
        check.due("the heaviest child, not the first", Check.buffer(tree, 0), "=26-26:1 =25-25:1");
        check.due("node 2", Check.buffer(tree, 2), "=9-9:3 =10-10:3");
        check.due("node 2 joined", tree.ofNode(2, 5), 1);
    }

    private static void whatIsLeftBecomesOneWithNone() {
        StoneTree tree = new StoneTree();
        tree.set(0, 2);
        tree.send(1, 8, 18, 5);
        tree.send(0, 10, 10, 1);
        check.due("SET 11", tree.send(0, 11, 11, 2), 4);
        check.due("two parts are left", Check.buffer(tree, 0), "+8-8:5 +18-18:5");
        check.due("node 2", Check.buffer(tree, 2), "+12-17:5");
        check.due("node 7", Check.buffer(tree, 7), "+9-9:5");
        check.due("leaf 10", tree.ofKey(10, 0), 1);
        check.due("leaf 11", tree.ofKey(11, 0), 2);
        check.due("ADD 8 joins the part", tree.send(1, 8, 8, 1), 4);
        check.due("the part", Check.buffer(tree, 0), "+8-8:6 +18-18:5");
    }

    private static void threeRoundsMayBeNeeded() {
        StoneTree tree = new StoneTree();
        tree.set(0, 1);
        tree.send(1, 0, 26, 1);
        check.due("all go down to the leaves", tree.send(1, 0, 26, 2), 0);
        check.due("went down", tree.count(2), 6 + 18 + 54);
        check.due("applied", tree.count(3), 54);
        check.due("rounds of the root", tree.ofNode(0, 3), 3);
        check.due("rounds of node 12", tree.ofNode(12, 3), 3);
    }

    /** Ten stones are cut in two, and one loses its first part: 21 lie there, until the last child gets its own. */
    private static void theMostPartsInOneBuffer() {
        StoneTree tree = new StoneTree();
        tree.set(0, 10);
        for (int number = 0; number < 10; number++) {
            tree.send(1, 8, 18, number);
        }
        check.due("stones", tree.ofNode(0, 0), 10);
        tree.send(1, 9, 18, 10);
        check.due("went down from the root", tree.ofNode(0, 4), 22);
        check.due("what is left", Check.buffer(tree, 0),
            "+8-8:0 +8-8:1 +8-8:2 +8-8:3 +8-8:4 +8-8:5 +8-8:6 +8-8:7 +8-8:8 +8-8:9");
    }

    private static void stonesJoinBelow() {
        StoneTree tree = new StoneTree();
        tree.send(0, 2, 2, 7);
        tree.empty(0);
        tree.send(1, 0, 4, 1);
        tree.empty(0);
        check.due("a piece is above", Check.buffer(tree, 1), "=2-2:7 +0-4:1");
        tree.empty(1);
        check.due("cut to one node", Check.buffer(tree, 4), "=2-2:7 +0-2:1");
        check.due("cut to two keys", Check.buffer(tree, 5), "+3-4:1");
        tree.send(1, 2, 2, 5);
        tree.empty(0);
        tree.empty(1);
        check.due("an ADD behind a piece", Check.buffer(tree, 4), "=2-2:7 +0-2:1 +2-2:5");
        tree.send(1, 2, 12, 4);
        tree.empty(0);
        tree.empty(1);
        check.due("a part of one key joins", Check.buffer(tree, 4), "=2-2:7 +0-2:1 +2-2:9");
        check.due("joined there", tree.ofNode(4, 5), 1);
        check.due("as read", tree.ofKey(2, 1), 17);
    }

    private static void emptyGivesAllToAllChildren() {
        StoneTree tree = new StoneTree();
        tree.send(1, 5, 20, 5);
        tree.send(0, 19, 19, 1);
        check.due("empty(0)", tree.empty(0), 4);
        check.due("node 0", Check.buffer(tree, 0), "");
        check.due("node 1", Check.buffer(tree, 1), "+5-8:5");
        check.due("node 2", Check.buffer(tree, 2), "+9-17:5");
        check.due("node 3", Check.buffer(tree, 3), "+18-20:5 =19-19:1");
        check.due("node 0 gave", tree.ofNode(0, 4), 4);
        check.due("node 0 gave to three", tree.ofNode(0, 3), 3);
        check.due("empty(3)", tree.empty(3), 4);
        check.due("node 3 gave to one", tree.ofNode(3, 3), 1);
        check.due("nothing is there to give", tree.empty(0), 4);
        check.due("node 0 gave to three still", tree.ofNode(0, 3), 3);
        check.due("each is a change", tree.count(7), 5);
    }

    private static void emptyLowNode() {
        StoneTree tree = new StoneTree();
        tree.send(0, 13, 13, 990);
        tree.send(1, 12, 13, 20);
        tree.empty(0);
        tree.empty(2);
        check.due("node 8", Check.buffer(tree, 8), "=13-13:990 +12-13:20");
        check.due("empty(8)", tree.empty(8), 0);
        check.due("leaf 13", tree.ofKey(13, 0), 10);
        check.due("leaf 12 stays absent", tree.ofKey(12, 0), -6);
        check.due("applied", tree.count(3), 3);
        check.due("node 8 gave", tree.ofNode(8, 4), 3);
        check.due("node 8 gave to two keys", tree.ofNode(8, 3), 2);
        tree.send(2, 13, 13, 0);
        tree.empty(0);
        tree.empty(2);
        tree.empty(8);
        check.due("leaf 13 is erased", tree.ofKey(13, 0), -6);
    }

    private static void emptyErrors() {
        StoneTree tree = new StoneTree();
        tree.send(0, 13, 13, 990);
        for (int node : new int[] {-1, 13, Integer.MAX_VALUE, Integer.MIN_VALUE}) {
            check.error(tree, "empty(" + node + ")", () -> tree.empty(node), -1);
        }
    }

    private static void reading() {
        StoneTree tree = new StoneTree();
        tree.send(0, 5, 5, 999);
        tree.empty(0);
        tree.empty(1);
        tree.empty(5);
        tree.send(1, 5, 5, 2);
        tree.empty(0);
        tree.empty(1);
        tree.send(1, 5, 6, 10);
        tree.empty(0);
        tree.send(1, 0, 26, 100);
        check.due("leaf, and three buffers", tree.read(5), 111);
        check.due("leaf alone", tree.ofKey(5, 0), 999);
        check.due("an ADD to an absent key", tree.read(6), -6);
        check.due("looked at", tree.count(4), 6);
        tree.send(2, 5, 5, 0);
        check.due("erased above", tree.read(5), -6);
        tree.send(0, 5, 5, 3);
        check.due("set above", tree.read(5), 3);
        check.due("looked at", tree.count(4), 12);
        check.due("no stone went", tree.ofNode(0, 0), 2);
        check.due("undo of a read", tree.undo(), 5);
        check.due("looked at", tree.count(4), 9);
        for (int key : new int[] {-1, 27, Integer.MAX_VALUE, Integer.MIN_VALUE}) {
            check.error(tree, "read(" + key + ")", () -> tree.read(key), -1);
        }
    }
}
