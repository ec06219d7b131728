/** "Tree" and "Fishing" of the document's terms: keys, nodes, values, what a stone does to a key. */
public final class TreeTest {
    private static final Check check = new Check();
    /** Ahead of it a stone is sent: then it lies in the leaf of key 5. */
    private static final String TO_LEAF = " e0 e1 e5 ";

    public static void main(String[] args) {
        keysAre0To26();
        nodesAre0To12();
        keysOfNodes();
        childrenOfNodes();
        valuesAre0To999();
        keysAreAbsentAtFirst();
        aBufferIsARowInTheOrderOfComing();
        numbersAre0To999();
        setAndEraseAreOfOneKeyAlone();
        valuesAreLeftOverBy1000();
        setGivesTheNumber();
        eraseMakesAbsent();
        addAdds();
        addDoesNothingIfAbsent();
        lowNodeThenParentThenRoot();
        fromTheFirstToTheLastInEachBuffer();
        allStonesThatHaveThisKey();
        readingMovesNothing();
        check.finish();
    }

    private static void keysAre0To26() {
        check.sentence("There are 27 keys, 0 to 26");
        for (int key : new int[] {0, 26}) {
            check.answerIs("=" + key + ":7", "read(" + key + ")", tree -> tree.read(key), 7);
            check.answerIs("+0-26:1 =" + key + ":7 e0 e1 e3 e4 e12", "leaf " + key, tree -> tree.ofKey(key, 0), 7);
        }
        for (int key : new int[] {-1, 27}) {
            check.refused("send(0, " + key + ", " + key + ", 7)", tree -> tree.send(0, key, key, 7), Check.NO_SUCH);
        }
    }

    private static void nodesAre0To12() {
        check.sentence("There are ... 13 nodes");
        check.answerIs("+0-26:1 e0 e3", "ofNode(12, 0)", tree -> tree.ofNode(12, 0), 1);
        check.answerIs("", "empty(12)", tree -> tree.empty(12), 0);
        check.refused("ofNode(13, 0)", tree -> tree.ofNode(13, 0), Check.NO_SUCH);
        check.refused("ofNode(-1, 0)", tree -> tree.ofNode(-1, 0), Check.NO_SUCH);
    }

    private static void keysOfNodes() {
        check.sentence("the root, 0, has all keys; its children, 1 to 3, have 9 keys each; their children, 4 to 12, have 3 keys each");
        StoneTree tree = new StoneTree();
        int node = 0;
        for (int keys = 27; keys >= 3; keys /= 3) {
            for (int first = 0; first < 27; first += keys) {
                check.due("first key of node " + node, tree.ofNode(node, 1), first);
                check.due("last key of node " + node, tree.ofNode(node, 2), first + keys - 1);
                node++;
            }
        }
        check.due("nodes", node, 13);
    }

    /** Each key goes down on its own way. */
    private static void childrenOfNodes() {
        check.sentence("the children of node 1 are 4 to 6, and so on; below (the nodes 4 to 12) are the leaves");
        for (int sent = 0; sent < 27; sent++) {
            int key = sent;
            String stone = "=" + key + "-" + key + ":7";
            int middle = 1 + key / 9;
            int low = 4 + key / 3;
            check.bufferIs(stone, 0, stone);
            check.bufferIs(stone + " e0", middle, stone);
            check.bufferIs(stone + " e0 e" + middle, low, stone);
            String all = stone + " e0 e" + middle + " e" + low;
            check.answerIs(all, "leaf " + key, tree -> tree.ofKey(key, 0), 7);
            check.answerIs(all, "stones", tree -> tree.count(0), 0);
        }
    }

    private static void valuesAre0To999() {
        check.sentence("each key has a value (0 to 999) or is absent");
        for (int number : new int[] {0, 999}) {
            check.answerIs("=5:" + number, "as read", tree -> tree.ofKey(5, 1), number);
            check.answerIs("=5:" + number + TO_LEAF, "in the leaf", tree -> tree.ofKey(5, 0), number);
        }
        check.answerIs("=5:0", "0 is a value", tree -> tree.count(5), 1);
        check.answerIs("=5:0" + TO_LEAF, "0 is a value in the leaf, too", tree -> tree.count(5), 1);
    }

    private static void keysAreAbsentAtFirst() {
        check.sentence("or is absent (at first)");
        StoneTree tree = new StoneTree();
        for (int key = 0; key < 27; key++) {
            check.due("ofKey(" + key + ", 0)", tree.ofKey(key, 0), Check.NONE);
            check.due("read(" + key + ")", tree.read(key), Check.NONE);
        }
    }

    private static void aBufferIsARowInTheOrderOfComing() {
        check.sentence("Each node has a buffer, a row of stones in the order in which they came");
        check.bufferIs("=9:1 =3:2 x26 +0-5:3", 0, "=9-9:1 =3-3:2 x26-26:0 +0-5:3");
        check.bufferIs("=8:1 =3:2 x6 +0-5:3 e0", 1, "=8-8:1 =3-3:2 x6-6:0 +0-5:3");
        check.bufferIs("=5:1 e0 =3:2 e0 x4 e0 +0-5:3 e0", 1, "=5-5:1 =3-3:2 x4-4:0 +0-5:3");
        check.bufferIs("=5:1 =3:2 x4 +0-5:3 e0 e1", 5, "=5-5:1 =3-3:2 x4-4:0 +3-5:3");
    }

    private static void numbersAre0To999() {
        check.sentence("SET (0) or ADD (1) with a number (0 to 999), or ERASE (2)");
        for (int number : new int[] {0, 999}) {
            check.bufferIs("=5:" + number, 0, "=5-5:" + number);
            check.bufferIs("+5-6:" + number, 0, "+5-6:" + number);
        }
        for (int number : new int[] {-1, 1000, 1001, 1023, 1024, Integer.MIN_VALUE, Integer.MAX_VALUE}) {
            check.refused("send(0, 5, 5, " + number + ")", tree -> tree.send(0, 5, 5, number), Check.BAD_VALUE);
            check.refused("send(1, 5, 6, " + number + ")", tree -> tree.send(1, 5, 6, number), Check.BAD_VALUE);
        }
        check.answerIs("", "kinds", tree -> 100 * StoneTree.SET + 10 * StoneTree.ADD + StoneTree.ERASE, 12);
    }

    private static void setAndEraseAreOfOneKeyAlone() {
        check.sentence("has a first and a last key (SET and ERASE: one key alone)");
        check.bufferIs("+5-6:1 +0-26:1 +7-7:1", 0, "+5-6:1 +0-26:1 +7-7:1");
        check.refused("send(0, 5, 6, 1)", tree -> tree.send(0, 5, 6, 1), Check.NO_SUCH);
        check.refused("send(2, 5, 6, 0)", tree -> tree.send(2, 5, 6, 0), Check.NO_SUCH);
    }

    private static void valuesAreLeftOverBy1000() {
        check.sentence("All values are left over by 1000");
        int[][] sums = {{999, 0, 999}, {500, 499, 999}, {999, 1, 0}, {500, 500, 0}, {500, 501, 1}, {999, 999, 998}, {1, 999, 0}};
        for (int[] sum : sums) {
            String calls = "d0 =5:" + sum[0] + " +5:" + sum[1];
            check.answerIs(calls, "as read", tree -> tree.ofKey(5, 1), sum[2]);
            check.answerIs(calls + TO_LEAF, "in the leaf", tree -> tree.ofKey(5, 0), sum[2]);
        }
        check.answerIs("d0 b10 =5:999 " + Calls.times(9, "+5:999"), "nine times", tree -> tree.read(5), 990);
    }

    private static void setGivesTheNumber() {
        check.sentence("SET gives it the number as its value");
        for (String before : new String[] {"", "=5:700", "x5"}) {
            check.answerIs("d0 " + before + " =5:8", "as read", tree -> tree.ofKey(5, 1), 8);
            check.answerIs(before + TO_LEAF + "=5:8" + TO_LEAF, "in the leaf", tree -> tree.ofKey(5, 0), 8);
        }
    }

    private static void eraseMakesAbsent() {
        check.sentence("ERASE makes it absent");
        for (String before : new String[] {"", "=5:700", "x5"}) {
            check.answerIs("d0 " + before + " x5", "as read", tree -> tree.ofKey(5, 1), Check.NONE);
            check.answerIs(before + TO_LEAF + "x5" + TO_LEAF, "in the leaf", tree -> tree.ofKey(5, 0), Check.NONE);
        }
    }

    private static void addAdds() {
        check.sentence("ADD adds the number to its value if it has one");
        check.answerIs("d0 =5:0 +5:8", "as read", tree -> tree.ofKey(5, 1), 8);
        check.answerIs("=5:0" + TO_LEAF + "+5:8" + TO_LEAF, "in the leaf", tree -> tree.ofKey(5, 0), 8);
        check.answerIs("=5:7" + TO_LEAF + "+5:0" + TO_LEAF, "nothing more", tree -> tree.ofKey(5, 0), 7);
    }

    private static void addDoesNothingIfAbsent() {
        check.sentence("and does nothing if it is absent");
        check.answerIs("+5:8", "as read", tree -> tree.ofKey(5, 1), Check.NONE);
        check.answerIs("+5:8" + TO_LEAF, "in the leaf", tree -> tree.ofKey(5, 0), Check.NONE);
        check.answerIs("+5:8" + TO_LEAF, "keys that are not absent", tree -> tree.count(5), 0);
        check.answerIs("+5:8" + TO_LEAF + "=5:1", "nothing is kept of it", tree -> tree.ofKey(5, 1), 1);
    }

    private static void lowNodeThenParentThenRoot() {
        check.sentence("those of the low node, then those of its parent, then those of the root");
        check.answerIs("=5:3 e0 e1 +5:10 e0 +5:100", "each is applied", tree -> tree.read(5), 113);
        check.answerIs("x5 e0 e1 =5:8 e0 +5:2", "in this order", tree -> tree.read(5), 10);
        check.answerIs("=5:8 e0 e1 x5 e0 =5:2", "the root last", tree -> tree.read(5), 2);
        check.answerIs("=5:8 e0 e1 =5:2 e0", "the parent behind the low node", tree -> tree.read(5), 2);
        check.answerIs("=5:500" + TO_LEAF + "+5:1 e0 e1 +5:10 e0 +5:100", "the leaf first", tree -> tree.read(5), 611);
    }

    private static void fromTheFirstToTheLastInEachBuffer() {
        check.sentence("in each buffer from the first one to the last one");
        String stones = "b10 d0 =5:1 +5:2 x5 =5:4 +5:8";
        for (String down : new String[] {"", " e0", " e0 e1", " e0 e1 e5"}) {
            check.answerIs(stones + down, "read(5)", tree -> tree.read(5), 12);
        }
    }

    private static void allStonesThatHaveThisKey() {
        check.sentence("all stones that have this key are applied to its value");
        String stones = "b10 =5:100 +0-4:1 +5-8:2 +0-5:4 +6-9:8 +5-5:16 +4-6:32 +0-26:64 +6:128 +4:256";
        check.answerIs(stones, "from its first key to its last one", tree -> tree.read(5), 218);
        check.answerIs(stones + " e0 e1", "parts", tree -> tree.read(5), 218);
        check.answerIs("=5:100 =4:1 =6:2", "not those of others", tree -> tree.read(5), 100);
    }

    private static void readingMovesNothing() {
        check.sentence("fishers who read a key by all that lies above its leaf (a change of what was looked at alone)");
        check.answerIs("+5:1 =5:9 r5", "leaf 5", tree -> tree.ofKey(5, 0), Check.NONE);
        check.bufferIs("=5:9 +4-5:1 r5", 0, "=5-5:9 +4-5:1");
    }
}
