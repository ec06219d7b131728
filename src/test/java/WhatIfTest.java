/** Promises 10 to 15: sum, heaviest, wouldSink, worstKey, toEmptyAll, same. */
public final class WhatIfTest {
    private static final Check check = new Check();
    private static final int[] NO_KEYS = {-1, 27, 28, Integer.MIN_VALUE, Integer.MAX_VALUE};

    public static void main(String[] args) {
        sumOfThoseThatAreNotAbsent();
        theSumIsNotLeftOver();
        sumOfNoSuchPiece();
        theChildWithTheMostStones();
        theKeyOfALowNode();
        heaviestOfNoStones();
        heaviestOfNoSuchNode();
        howManyWouldSink();
        wouldSinkOfNoSuchKey();
        wouldSinkIsWhatSends();
        worstOfSeveralIsTheLowest();
        whatOfTheWorst();
        emptyingAll();
        emptyingAllIsWhatEmpties();
        bothAbsent();
        theSameValue();
        sameOfNoSuchKey();
        nothingChanges();
        check.finish();
    }

    private static void sumOfThoseThatAreNotAbsent() {
        check.sentence("10: the sum of the values, as they would be read, of the keys of a piece that are not absent");
        String calls = "=0:1 =5:10 =26:100 e0 e1 e4 +5-6:5 x26 =9:400";
        check.answerIs(calls, "sum(0, 26)", tree -> tree.sum(0, 26), 416);
        check.answerIs(calls, "sum(0, 0)", tree -> tree.sum(0, 0), 1);
        check.answerIs(calls, "sum(26, 26)", tree -> tree.sum(26, 26), 0);
        check.answerIs(calls, "sum(1, 4)", tree -> tree.sum(1, 4), 0);
        check.answerIs(calls, "sum(5, 8)", tree -> tree.sum(5, 8), 15);
        check.answerIs(calls, "sum(0, 5)", tree -> tree.sum(0, 5), 16);
        check.answerIs(calls, "sum(6, 9)", tree -> tree.sum(6, 9), 400);
        check.answerIs("", "of none", tree -> tree.sum(0, 26), 0);
    }

    private static void theSumIsNotLeftOver() {
        check.sentence("10: Returns the sum (as it is, not left over by 1000)");
        check.answerIs("=0:999 =1:1", "sum(0, 1)", tree -> tree.sum(0, 1), 1000);
        StringBuilder all = new StringBuilder("b10");
        for (int key = 0; key < 27; key++) {
            all.append(" =").append(key).append(":999");
        }
        check.answerIs(all.toString(), "sum(0, 26)", tree -> tree.sum(0, 26), 26973);
        check.answerIs(all + " +0-26:2", "the values are left over", tree -> tree.sum(0, 26), 27);
    }

    private static void sumOfNoSuchPiece() {
        check.sentence("10: NO_SUCH if there is no such key, or last is below first");
        for (int key : NO_KEYS) {
            check.refused("sum(" + key + ", 26)", tree -> tree.sum(key, 26), Check.NO_SUCH);
            check.refused("sum(0, " + key + ")", tree -> tree.sum(0, key), Check.NO_SUCH);
            check.refused("sum(" + key + ", " + key + ")", tree -> tree.sum(key, key), Check.NO_SUCH);
        }
        check.refused("sum(5, 4)", tree -> tree.sum(5, 4), Check.NO_SUCH);
        check.refused("sum(26, 0)", tree -> tree.sum(26, 0), Check.NO_SUCH);
        check.refused("sum(-1, 27)", tree -> tree.sum(-1, 27), Check.NO_SUCH);
    }

    private static void theChildWithTheMostStones() {
        check.sentence("11: which node would be chosen first if the buffer of a node had to be emptied now");
        check.answerIs("=20:1", "not too full", tree -> tree.heaviest(0), 3);
        check.answerIs("=20:1 =10:1", "of several the first", tree -> tree.heaviest(0), 2);
        check.answerIs("=20:1 =10:1 =0:1", "of several the first", tree -> tree.heaviest(0), 1);
        check.answerIs("=0:1 =10:1 +16-20:1", "a piece counts for each", tree -> tree.heaviest(0), 2);
        check.answerIs("+0-8:1 =10:1 =20:1 =21:1", "once", tree -> tree.heaviest(0), 3);
        check.answerIs("=0:1 =3:1 =4:1 e0", "below the root", tree -> tree.heaviest(1), 5);
        check.answerIs("=17:1 e0", "the last child of node 2", tree -> tree.heaviest(2), 9);
        check.answerIs("=26:1 e0", "the last node", tree -> tree.heaviest(3), 12);
    }

    private static void theKeyOfALowNode() {
        check.sentence("11: its child (for a low node: the key) with the most stones; Returns the child, or the key");
        check.answerIs("=0:1 e0 e1", "heaviest(4)", tree -> tree.heaviest(4), 0);
        check.answerIs("=26:1 e0 e3", "heaviest(12)", tree -> tree.heaviest(12), 26);
        check.answerIs("+25-26:1 e0 e3", "of several the first", tree -> tree.heaviest(12), 25);
        check.answerIs("=24:1 +24-26:2 +25-26:1 =26:1 e0 e3", "the most", tree -> tree.heaviest(12), 26);
    }

    private static void heaviestOfNoStones() {
        check.sentence("11: NONE if its buffer has no stones");
        for (int node = 0; node <= 12; node++) {
            int of = node;
            check.answerIs("", "heaviest(" + node + ")", tree -> tree.heaviest(of), Check.NONE);
        }
        check.answerIs("=0:1 e0", "all went down", tree -> tree.heaviest(0), Check.NONE);
        check.answerIs("=0:1 e0", "they are above", tree -> tree.heaviest(4), Check.NONE);
    }

    private static void heaviestOfNoSuchNode() {
        check.sentence("11: NO_SUCH if there is no such node");
        for (int node : new int[] {-1, 13, 14, Integer.MIN_VALUE, Integer.MAX_VALUE}) {
            check.refused("heaviest(" + node + ")", tree -> tree.heaviest(node), Check.NO_SUCH);
        }
    }

    private static void howManyWouldSink() {
        check.sentence("12: how many stones would go down, in all nodes together, if a SET of a key was sent now");
        check.answerIs("", "none", tree -> tree.wouldSink(0), 0);
        check.answerIs("=0:1 =1:1 =2:1", "full by it", tree -> tree.wouldSink(26), 0);
        check.answerIs("=0:1 =1:1 =2:1 =3:1", "too full by it", tree -> tree.wouldSink(26), 4);
        check.answerIs("=0:1 =1:1 =2:1 =3:1", "it takes the place of one", tree -> tree.wouldSink(3), 0);
        check.answerIs("d0 =0:1 =1:1 =2:1 =3:1", "it takes no place", tree -> tree.wouldSink(3), 5 + 3);
        check.answerIs("b1 =5:1", "down to a low node", tree -> tree.wouldSink(4), 5);
        check.answerIs("b1 d0 =5:1", "down to the leaf", tree -> tree.wouldSink(5), 6);
        check.answerIs("b1 =5:1", "the first of two children", tree -> tree.wouldSink(26), 1);
        check.answerIs("b1 d0 =5:1 e0", "not what went down before", tree -> tree.wouldSink(5), 0);
        check.answerIs("=0:1 =1:1 =9:1 b2", "also if the SET takes a place in a buffer that is too full", tree -> tree.wouldSink(0), 2);
    }

    private static void wouldSinkOfNoSuchKey() {
        check.sentence("12: NO_SUCH if there is no such key");
        for (int key : NO_KEYS) {
            check.refused("wouldSink(" + key + ")", tree -> tree.wouldSink(key), Check.NO_SUCH);
        }
    }

    private static void wouldSinkIsWhatSends() {
        check.sentence("12: if a SET of a key was sent now");
        for (String calls : new String[] {"b1 =9:1", "b1 +3-20:5 =12:4", "d0 b2 +3-20:5 =12:4 +0-26:1 =12:9 =1:1", Check.BUSY}) {
            int worst = 0;
            for (int key = 26; key >= 0; key--) {
                StoneTree tree = Calls.tree(calls);
                int told = tree.wouldSink(key);
                int down = tree.count(2);
                tree.send(0, key, key, 0);
                check.due("wouldSink(" + key + ") after " + calls, told, tree.count(2) - down);
                int worstNow = worst;
                worst = told >= Calls.tree(calls).wouldSink(worstNow) ? key : worst;
            }
            check.answerIs(calls, "worstKey(0)", tree -> tree.worstKey(0), worst);
        }
    }

    private static void worstOfSeveralIsTheLowest() {
        check.sentence("13: the key whose SET would make the most stones go down, of several the lowest one");
        check.answerIs("", "none go down", tree -> tree.worstKey(0), 0);
        check.answerIs("", "none go down", tree -> tree.worstKey(1), 0);
        check.answerIs("b1 =5:10", "3 and 4", tree -> tree.worstKey(0), 3);
        check.answerIs("b1 =5:10", "3 and 4", tree -> tree.worstKey(1), 5);
        check.answerIs("b1 d0 =5:10", "the leaf, too", tree -> tree.worstKey(0), 5);
        check.answerIs("b1 d0 =5:10", "the leaf, too", tree -> tree.worstKey(1), 6);
        check.answerIs("b1 =0:1", "key 0 takes a place", tree -> tree.worstKey(0), 1);
        check.answerIs("b1 d0 =0:1", "the first key", tree -> tree.worstKey(0), 0);
        check.answerIs("b1 d0 =26:1", "the last key", tree -> tree.worstKey(0), 26);
        check.answerIs("b1 d0 =26:1", "the last key", tree -> tree.worstKey(1), 6);
    }

    private static void whatOfTheWorst() {
        check.sentence("13: BAD_VALUE if what is neither 0 nor 1");
        for (int what : new int[] {-1, 2, 3, Integer.MIN_VALUE, Integer.MAX_VALUE}) {
            check.refused("worstKey(" + what + ")", tree -> tree.worstKey(what), Check.BAD_VALUE);
        }
    }

    private static void emptyingAll() {
        check.sentence("14: how many stones would go down, in all nodes together, if the buffers of the nodes 0 to 12 were emptied");
        check.answerIs("", "none", StoneTree::toEmptyAll, 0);
        check.answerIs("=5:1", "three times one", StoneTree::toEmptyAll, 3);
        check.answerIs("=26:1 e0 e3", "node 12, too", StoneTree::toEmptyAll, 1);
        check.answerIs("=26:1 e0 e3 e12", "none is left", StoneTree::toEmptyAll, 0);
        check.answerIs("+0-26:1", "3, 9 and 27 parts", StoneTree::toEmptyAll, 39);
        check.answerIs("=5:1 e0 +5:1", "two become one in node 1", StoneTree::toEmptyAll, 1 + 1 + 1);
        check.answerIs("d0 =5:1 e0 +5:1", "two become none", StoneTree::toEmptyAll, 1 + 2 + 2);
    }

    private static void emptyingAllIsWhatEmpties() {
        check.sentence("14: one after the other, as by empty()");
        String full = "b1 =0:1 e0 =3:1 e0 =1:1 =4:1";
        for (String calls : new String[] {full, "b1 +3-20:5 =12:4", "d0 b10 +3-20:5 =12:4 +0-26:1 =12:9 =1:1 =12:7 b2", Check.BUSY}) {
            StoneTree tree = Calls.tree(calls);
            int told = tree.toEmptyAll();
            int down = tree.count(2);
            for (int node = 0; node <= 12; node++) {
                tree.empty(node);
            }
            check.due("toEmptyAll() after " + calls, told, tree.count(2) - down);
            check.due("stones that are left", tree.count(0), 0);
        }
    }

    private static void bothAbsent() {
        check.sentence("15: (both absent");
        check.answerIs("", "same(0, 26)", tree -> tree.same(0, 26), 1);
        check.answerIs("=5:0", "one alone", tree -> tree.same(5, 6), 0);
        check.answerIs("=5:0", "the other alone", tree -> tree.same(6, 5), 0);
        check.answerIs("=5:1 e0 e1 e5 x5", "erased above", tree -> tree.same(5, 6), 1);
        check.answerIs("+5:7", "an ADD to an absent key", tree -> tree.same(5, 6), 1);
    }

    private static void theSameValue() {
        check.sentence("15: or the same value)");
        check.answerIs("=5:7 e0 e1 +6-7:4 =6:7", "on other levels", tree -> tree.same(5, 6), 1);
        check.answerIs("=5:7 =6:8", "other values", tree -> tree.same(5, 6), 0);
        check.answerIs("=5:0 =6:999 +6-7:1", "left over by 1000", tree -> tree.same(5, 6), 1);
        check.answerIs("=5:7", "itself", tree -> tree.same(5, 5), 1);
        check.answerIs("=0:7 =26:7", "the first and the last", tree -> tree.same(26, 0), 1);
    }

    private static void sameOfNoSuchKey() {
        check.sentence("15: NO_SUCH if there is no such key");
        for (int key : NO_KEYS) {
            check.refused("same(" + key + ", 0)", tree -> tree.same(key, 0), Check.NO_SUCH);
            check.refused("same(0, " + key + ")", tree -> tree.same(0, key), Check.NO_SUCH);
            check.refused("same(" + key + ", " + key + ")", tree -> tree.same(key, key), Check.NO_SUCH);
        }
    }

    private static void nothingChanges() {
        check.sentence("---- what if; nothing changes");
        StoneTree tree = Calls.tree(Check.BUSY);
        tree.sum(0, 26);
        tree.heaviest(0);
        tree.wouldSink(5);
        tree.worstKey(0);
        tree.worstKey(1);
        tree.toEmptyAll();
        tree.same(0, 26);
        check.due("all that shows", Check.everything(tree), Check.everything(Calls.tree(Check.BUSY)));
        tree = Calls.tree(Check.BUSY);
        tree.wouldSink(5);
        tree.toEmptyAll();
        check.due("undo", tree.undo(), 5);
        check.due("what is undone", Check.everything(tree), Check.everything(Calls.tree(Check.BUSY + " u")));
    }
}
