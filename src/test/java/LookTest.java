/** Promises 6 to 9: stone, ofNode, ofKey, count. */
public final class LookTest {
    private static final Check check = new Check();

    public static void main(String[] args) {
        stones();
        nodes();
        keys();
        counts();
        check.finish();
    }

    /** Root: SET 5 10, ADD 3 to 20 7, ERASE 26. */
    private static StoneTree threeStones() {
        StoneTree tree = new StoneTree();
        tree.send(0, 5, 5, 10);
        tree.send(1, 3, 20, 7);
        tree.send(2, 26, 26, 0);
        return tree;
    }

    private static void stones() {
        StoneTree tree = threeStones();
        int[][] stones = {{0, 5, 5, 10}, {1, 3, 20, 7}, {2, 26, 26, 0}};
        for (int place = 0; place < stones.length; place++) {
            for (int what = 0; what < 4; what++) {
                check.due("stone(0, " + place + ", " + what + ")", tree.stone(0, place, what), stones[place][what]);
            }
        }
        int[][] noSuch = {{-1, 0, 0}, {13, 0, 0}, {0, -1, 0}, {0, 3, 0}, {1, 0, 0}, {12, 0, 9}, {0, 3, -1}, {13, 0, 4},
            {Integer.MAX_VALUE, 0, 0}, {0, Integer.MAX_VALUE, 0}, {Integer.MIN_VALUE, Integer.MIN_VALUE, 0}};
        for (int[] c : noSuch) {
            check.error(tree, "stone " + c[0] + ' ' + c[1] + ' ' + c[2], () -> tree.stone(c[0], c[1], c[2]), -1);
        }
        for (int what : new int[] {-1, 4, Integer.MAX_VALUE, Integer.MIN_VALUE}) {
            check.error(tree, "stone(0, 0, " + what + ")", () -> tree.stone(0, 0, what), -2);
        }
        check.due("no change", tree.count(7), 3);
    }

    private static void nodes() {
        StoneTree tree = threeStones();
        tree.empty(0);
        tree.send(0, 5, 5, 11);
        tree.send(2, 5, 5, 0);
        tree.send(1, 5, 5, 1);
        int[][] numbers = {{1, 0, 26, 3, 5, 2}, {2, 0, 8, 0, 0, 0}, {1, 9, 17, 0, 0, 0}, {2, 18, 26, 0, 0, 0}};
        for (int node = 0; node < numbers.length; node++) {
            for (int what = 0; what < 6; what++) {
                check.due("ofNode(" + node + ", " + what + ")", tree.ofNode(node, what), numbers[node][what]);
            }
        }
        for (int node : new int[] {-1, 13, Integer.MAX_VALUE, Integer.MIN_VALUE}) {
            check.error(tree, "ofNode(" + node + ", 0)", () -> tree.ofNode(node, 0), -1);
            check.error(tree, "ofNode(" + node + ", 6)", () -> tree.ofNode(node, 6), -1);
        }
        for (int what : new int[] {-1, 6, Integer.MAX_VALUE, Integer.MIN_VALUE}) {
            check.error(tree, "ofNode(0, " + what + ")", () -> tree.ofNode(0, what), -2);
        }
    }

    private static void keys() {
        StoneTree tree = threeStones();
        keyIs(tree, 5, -6, 17, 2, 0);
        keyIs(tree, 20, -6, -6, 1, 0);
        keyIs(tree, 2, -6, -6, 0, -6);
        tree.empty(0);
        keyIs(tree, 5, -6, 17, 2, 1);
        keyIs(tree, 26, -6, -6, 1, 3);
        tree.empty(1);
        keyIs(tree, 5, -6, 17, 2, 5);
        tree.empty(5);
        keyIs(tree, 5, 17, 17, 0, -6);
        tree.send(1, 0, 26, 990);
        keyIs(tree, 5, 17, 7, 1, 0);
        keyIs(tree, 9, -6, -6, 2, 2);
        for (int key : new int[] {-1, 27, Integer.MAX_VALUE, Integer.MIN_VALUE}) {
            check.error(tree, "ofKey(" + key + ", 0)", () -> tree.ofKey(key, 0), -1);
            check.error(tree, "ofKey(" + key + ", 4)", () -> tree.ofKey(key, 4), -1);
        }
        for (int what : new int[] {-1, 4, Integer.MAX_VALUE, Integer.MIN_VALUE}) {
            check.error(tree, "ofKey(5, " + what + ")", () -> tree.ofKey(5, what), -2);
        }
    }

    private static void keyIs(StoneTree tree, int key, int leaf, int read, int stones, int deepest) {
        int[] numbers = {leaf, read, stones, deepest};
        for (int what = 0; what < numbers.length; what++) {
            check.due("ofKey(" + key + ", " + what + ")", tree.ofKey(key, what), numbers[what]);
        }
        check.due("looked at by ofKey", tree.count(4), 0);
    }

    private static void counts() {
        StoneTree tree = threeStones();
        tree.empty(0);
        tree.empty(1);
        tree.empty(5);
        tree.read(0);
        tree.read(5);
        Check.write(tree, "1=1;2x");
        // The piece 3 to 20 was cut in three above, in two at node 1, in three at node 5.
        int[] numbers = {4, 3, 12, 4, 6, 1, 6, 6, 4, 1};
        for (int what = 0; what < numbers.length; what++) {
            check.due("count(" + what + ")", tree.count(what), numbers[what]);
        }
        tree.send(0, 0, 0, 0);
        tree.send(0, 26, 26, 999);
        check.due("keys that are not absent", tree.count(5), 3);
        for (int what : new int[] {-1, 10, Integer.MAX_VALUE, Integer.MIN_VALUE}) {
            check.error(tree, "count(" + what + ")", () -> tree.count(what), -2);
        }
    }
}
