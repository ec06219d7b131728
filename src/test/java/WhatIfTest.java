/** Promises 10 to 15: sum, heaviest, wouldSink, worstKey, toEmptyAll, same. */
public final class WhatIfTest {
    private static final Check check = new Check();

    public static void main(String[] args) {
        sums();
        heaviestChildren();
        sinking();
        worstOfSeveral();
        theWorstIsNotTheFirst();
        theWorstIsTheFirst();
        emptyingAll();
        sameKeys();
        check.finish();
    }

    private static void sums() {
        StoneTree tree = new StoneTree();
        for (int key = 0; key < 27; key += 2) {
            tree.send(0, key, key, 999);
        }
        check.due("sum(0, 26)", tree.sum(0, 26), 14 * 999);
        check.due("sum(0, 0)", tree.sum(0, 0), 999);
        check.due("sum(1, 1)", tree.sum(1, 1), 0);
        check.due("sum(1, 4)", tree.sum(1, 4), 1998);
        check.due("sum(26, 26)", tree.sum(26, 26), 999);
        tree.send(1, 0, 26, 2);
        check.due("values are left over by 1000", tree.sum(0, 26), 14);
        check.due("looked at", tree.count(4), 0);
        int[][] wrong = {{-1, 5}, {0, 27}, {27, 27}, {5, 4}, {-1, -1}, {Integer.MIN_VALUE, Integer.MAX_VALUE},
            {0, Integer.MAX_VALUE}, {26, 0}};
        for (int[] c : wrong) {
            check.error(tree, "sum " + c[0] + ' ' + c[1], () -> tree.sum(c[0], c[1]), -1);
        }
    }

    private static void heaviestChildren() {
        StoneTree tree = new StoneTree();
        check.due("no stones", tree.heaviest(0), -6);
        tree.send(1, 0, 26, 1);
        check.due("a piece counts for each", tree.heaviest(0), 1);
        tree.send(1, 8, 9, 1);
        check.due("of several the first", tree.heaviest(0), 1);
        tree.send(0, 20, 20, 1);
        tree.send(0, 21, 21, 1);
        check.due("most", tree.heaviest(0), 3);
        tree.empty(0);
        check.due("node 3", tree.heaviest(3), 10);
        check.due("node 1", tree.heaviest(1), 6);
        check.due("node 2", tree.heaviest(2), 7);
        tree.empty(3);
        check.due("low node 10", tree.heaviest(10), 20);
        check.due("low node 11", tree.heaviest(11), 21);
        check.due("low node 12", tree.heaviest(12), 24);
        check.due("low node 4", tree.heaviest(4), -6);
        for (int node : new int[] {-1, 13, Integer.MAX_VALUE, Integer.MIN_VALUE}) {
            check.error(tree, "heaviest(" + node + ")", () -> tree.heaviest(node), -1);
        }
    }

    private static void sinking() {
        StoneTree tree = new StoneTree();
        tree.set(0, 1);
        tree.send(0, 5, 5, 10);
        String before = Check.everything(tree);
        check.due("the SET takes a place", tree.wouldSink(5), 0);
        check.due("two stones", tree.wouldSink(4), 5);
        check.due("of two children the first", tree.wouldSink(26), 1);
        check.due("worstKey(0)", tree.worstKey(0), 3);
        check.due("worstKey(1)", tree.worstKey(1), 5);
        check.due("nothing changes", Check.everything(tree), before);
        tree.set(1, 0);
        check.due("no doubles: both go down, and one more each time", tree.wouldSink(5), 6);
        check.due("worstKey(0)", tree.worstKey(0), 5);
        check.due("worstKey(1)", tree.worstKey(1), 6);
        tree.empty(0);
        check.due("what went down before does not count", tree.wouldSink(5), 0);
        for (int key : new int[] {-1, 27, Integer.MAX_VALUE, Integer.MIN_VALUE}) {
            check.error(tree, "wouldSink(" + key + ")", () -> tree.wouldSink(key), -1);
        }
        for (int what : new int[] {-1, 2, Integer.MAX_VALUE, Integer.MIN_VALUE}) {
            check.error(tree, "worstKey(" + what + ")", () -> tree.worstKey(what), -2);
        }
    }

    private static void worstOfSeveral() {
        StoneTree tree = new StoneTree();
        tree.set(0, 1);
        tree.send(0, 9, 9, 1);
        int worst = 0;
        for (int key = 0; key < 27; key++) {
            String before = Check.state(tree);
            int told = tree.wouldSink(key);
            int down = tree.count(2);
            tree.send(0, key, key, 0);
            check.due("wouldSink(" + key + ")", told, tree.count(2) - down);
            tree.undo();
            check.due("undo of SET " + key, Check.state(tree), before);
            worst = Math.max(worst, told);
        }
        check.due("worstKey(0)", tree.worstKey(0), 10);
        check.due("worstKey(1)", tree.worstKey(1), worst);
    }

    private static void theWorstIsNotTheFirst() {
        StoneTree tree = new StoneTree();
        tree.set(0, 1);
        tree.send(0, 0, 0, 1);
        check.due("wouldSink(0)", tree.wouldSink(0), 0);
        check.due("wouldSink(1)", tree.wouldSink(1), 5);
        check.due("worstKey(0)", tree.worstKey(0), 1);
        check.due("worstKey(1)", tree.worstKey(1), 5);
    }

    private static void theWorstIsTheFirst() {
        StoneTree tree = new StoneTree();
        tree.set(0, 1);
        tree.set(1, 0);
        tree.send(0, 0, 0, 1);
        check.due("worstKey(0)", tree.worstKey(0), 0);
        check.due("worstKey(1)", tree.worstKey(1), 6);
    }

    private static void emptyingAll() {
        StoneTree tree = new StoneTree();
        tree.send(1, 0, 26, 1);
        String before = Check.everything(tree);
        check.due("3, 9 and 27 parts", tree.toEmptyAll(), 39);
        check.due("nothing changes", Check.everything(tree), before);
        tree.send(0, 5, 5, 1);
        check.due("and three times one", tree.toEmptyAll(), 42);
        tree.empty(0);
        tree.empty(1);
        check.due("less is above", tree.toEmptyAll(), 42 - 4 - 4);
    }

    private static void sameKeys() {
        StoneTree tree = new StoneTree();
        check.due("both absent", tree.same(0, 26), 1);
        tree.send(0, 0, 0, 5);
        check.due("one absent", tree.same(0, 26), 0);
        check.due("the other absent", tree.same(26, 0), 0);
        check.due("itself", tree.same(0, 0), 1);
        tree.send(0, 26, 26, 4);
        check.due("other values", tree.same(0, 26), 0);
        tree.send(1, 20, 26, 1);
        check.due("the same value", tree.same(0, 26), 1);
        tree.send(0, 9, 9, 0);
        check.due("0 is not absent", tree.same(9, 10), 0);
        check.due("looked at", tree.count(4), 0);
        int[][] wrong = {{-1, 0}, {0, -1}, {27, 0}, {0, 27}, {Integer.MAX_VALUE, Integer.MIN_VALUE}};
        for (int[] c : wrong) {
            check.error(tree, "same " + c[0] + ' ' + c[1], () -> tree.same(c[0], c[1]), -1);
        }
    }
}
