/** "Sinking" of the document's terms. */
public final class SinkingTest {
    private static final Check check = new Check();

    public static void main(String[] args) {
        itIsPutAtTheEnd();
        onlyIfDoublesIs1();
        onlyIfItIsOfOneKeyAlone();
        withTheLastStoneThatHasThisKey();
        onlyIfThatOneIsOfThisKeyAlone();
        setOrEraseTakesThePlace();
        addIsAddedToASetOrAdd();
        addBehindAnEraseIsTakenOut();
        partsOfOneKeyBecomeOneBelow();
        tooFullIsMoreThanBuffer();
        tooFullBelowTheRoot();
        alsoIfItWasTakenOut();
        aJoinedStoneIsNoStoneMore();
        asLongAsItIsTooFull();
        onlyTheNodeToWhichItCame();
        theChildWithTheMostStones();
        aPieceCountsForEachOnce();
        ofSeveralTheFirst();
        keysOfALowNode();
        allStonesFromTheFirstToTheLast();
        allKeysBelongToTheChild();
        partsAheadAndBehindStay();
        whatIsLeftStaysAtItsPlace();
        whatIsLeftBecomesOneWithNone();
        oneStoneAfterTheOther();
        inALowNodeTheyAreApplied();
        theMostPartsInOneBuffer();
        check.finish();
    }

    private static void itIsPutAtTheEnd() {
        check.sentence("When a stone comes to a node, it is put at the end of its buffer");
        check.bufferIs("=5:1 =3:2 +0-26:3 x4", 0, "=5-5:1 =3-3:2 +0-26:3 x4-4:0");
    }

    private static void onlyIfDoublesIs1() {
        check.sentence("If DOUBLES is 1");
        check.bufferIs("=5:1 =5:2", 0, "=5-5:2");
        check.bufferIs("d0 =5:1 =5:2 +5:3 x5", 0, "=5-5:1 =5-5:2 +5-5:3 x5-5:0");
        check.bufferIs("d0 =5:1 =5:2 e0", 1, "=5-5:1 =5-5:2");
        check.bufferIs("d0 =5:1 =5:2 d1 e0", 1, "=5-5:2");
        check.answerIs("d0 =5:1 =5:2 +5:3 x5", "joined", tree -> tree.ofNode(0, 5), 0);
    }

    private static void onlyIfItIsOfOneKeyAlone() {
        check.sentence("and it is of one key alone, it may become one with an earlier stone");
        check.bufferIs("+5-6:1 +5-6:2", 0, "+5-6:1 +5-6:2");
        check.bufferIs("=5:1 +5-6:2", 0, "=5-5:1 +5-6:2");
        check.bufferIs("=6:1 +5-6:2", 0, "=6-6:1 +5-6:2");
        check.bufferIs("+5:1 +5-6:2", 0, "+5-5:1 +5-6:2");
        check.bufferIs("x5 +5-6:2", 0, "x5-5:0 +5-6:2");
        check.answerIs("=5:1 =6:1 +5-6:2", "joined", tree -> tree.ofNode(0, 5), 0);
        check.bufferIs("+5-5:1 +5-5:2", 0, "+5-5:3");
    }

    private static void withTheLastStoneThatHasThisKey() {
        check.sentence("with the last stone of the buffer, ahead of it, that has this key");
        check.bufferIs("d0 =5:1 =5:2 =5:3 d1 =5:4", 0, "=5-5:1 =5-5:2 =5-5:4");
        check.bufferIs("d0 =5:1 =5:2 =6:3 d1 +5:4", 0, "=5-5:1 =5-5:6 =6-6:3");
        check.bufferIs("=4:1 =6:2 =5:3 =4:9", 0, "=6-6:2 =5-5:3 =4-4:9");
        check.bufferIs("=4:1 =6:2 =5:3", 0, "=4-4:1 =6-6:2 =5-5:3");
        check.bufferIs("=4:1 =6:2 =5:3 +4:9", 0, "=4-4:10 =6-6:2 =5-5:3");
    }

    private static void onlyIfThatOneIsOfThisKeyAlone() {
        check.sentence("if that one is of this key alone, too");
        check.bufferIs("+5-6:1 +5:2", 0, "+5-6:1 +5-5:2");
        check.bufferIs("+4-5:1 =5:2", 0, "+4-5:1 =5-5:2");
        check.bufferIs("+0-26:1 x5", 0, "+0-26:1 x5-5:0");
        check.bufferIs("=5:1 +5-6:2 =5:3", 0, "=5-5:1 +5-6:2 =5-5:3");
        check.bufferIs("=5:1 +4-5:2 +5:3", 0, "=5-5:1 +4-5:2 +5-5:3");
        check.bufferIs("=5:1 +0-26:2 x5", 0, "=5-5:1 +0-26:2 x5-5:0");
        check.bufferIs("=5:1 +6-8:2 =5:3", 0, "+6-8:2 =5-5:3");
        check.bufferIs("=5:1 +0-4:2 +5:3", 0, "=5-5:4 +0-4:2");
        check.bufferIs("+4-5:1 =5:2 +5:3", 0, "+4-5:1 =5-5:5");
        check.answerIs("=5:1 +5-6:2 =5:3", "joined", tree -> tree.ofNode(0, 5), 0);
    }

    private static void setOrEraseTakesThePlace() {
        check.sentence("a SET or ERASE takes the place of that one (that one is taken out; the new one stays at the end)");
        for (String earlier : new String[] {"=5:7", "+5:7", "x5"}) {
            check.bufferIs(earlier + " =9:1 =5:8", 0, "=9-9:1 =5-5:8");
            check.bufferIs(earlier + " =9:1 x5", 0, "=9-9:1 x5-5:0");
            check.answerIs(earlier + " =9:1 x5", "joined", tree -> tree.ofNode(0, 5), 1);
        }
    }

    private static void addIsAddedToASetOrAdd() {
        check.sentence("an ADD that comes behind a SET or an ADD is added to its number (left over by 1000), and the new one is taken out");
        int[][] sums = {{7, 8, 15}, {0, 0, 0}, {999, 0, 999}, {500, 499, 999}, {999, 1, 0}, {500, 501, 1}, {999, 999, 998}};
        for (int[] sum : sums) {
            check.bufferIs("=5:" + sum[0] + " =9:1 +5:" + sum[1], 0, "=5-5:" + sum[2] + " =9-9:1");
            check.bufferIs("+5:" + sum[0] + " =9:1 +5:" + sum[1], 0, "+5-5:" + sum[2] + " =9-9:1");
        }
        check.answerIs("+5:1 +5:1 +5:1", "joined", tree -> tree.ofNode(0, 5), 2);
    }

    private static void addBehindAnEraseIsTakenOut() {
        check.sentence("an ADD that comes behind an ERASE is taken out");
        check.bufferIs("x5 =9:1 +5:8", 0, "x5-5:0 =9-9:1");
        check.answerIs("x5 =9:1 +5:8", "joined", tree -> tree.ofNode(0, 5), 1);
        check.answerIs("=5:3 e0 e1 e5 x5 +5:8 e0 e1 e5", "leaf 5", tree -> tree.ofKey(5, 0), Check.NONE);
    }

    private static void partsOfOneKeyBecomeOneBelow() {
        check.sentence("If ... it is of one key alone, it may become one with an earlier stone (a part is a stone of its own)");
        check.bufferIs("=2:7 e0 e1 +2-12:5 e0 e1", 4, "=2-2:12");
        check.bufferIs("=8:7 e0 +8-12:5 e0", 1, "=8-8:12");
        check.answerIs("=8:7 e0 +8-12:5 e0", "joined in node 1", tree -> tree.ofNode(1, 5), 1);
        check.bufferIs("+8-12:5 e0 =8:7 e0", 1, "=8-8:7");
        check.bufferIs("+7-12:5 e0 =8:7 e0", 1, "+7-8:5 =8-8:7");
    }

    private static void tooFullIsMoreThanBuffer() {
        check.sentence("A buffer is too full if it has more stones than BUFFER");
        for (int buffer = 1; buffer <= 10; buffer++) {
            StringBuilder calls = new StringBuilder("b" + buffer);
            for (int key = 0; key < buffer; key++) {
                calls.append(" =").append(key).append(":1");
            }
            check.answerIs(calls.toString(), "went down", tree -> tree.count(2), 0);
            check.answerIs(calls.toString(), "stones", tree -> tree.ofNode(0, 0), buffer);
            calls.append(" =").append(buffer).append(":1");
            check.answerIs(calls.toString(), "went down from the root", tree -> tree.ofNode(0, 4), Math.min(9, buffer + 1));
        }
    }

    private static void tooFullBelowTheRoot() {
        check.sentence("as long as the buffer of this node is too full (of a node below the root, too)");
        for (int buffer = 1; buffer <= 10; buffer++) {
            int more = buffer + 1;
            String full = "d0 b" + buffer + ' ' + Calls.times(buffer, "+0:1 e0");
            check.answerIs(full, "went down from node 1", tree -> tree.ofNode(1, 4), 0);
            check.answerIs(full + "+0:1 e0", "went down from node 1", tree -> tree.ofNode(1, 4), more);
            check.answerIs(full + "+0:1 e0", "went down from node 4", tree -> tree.ofNode(4, 4), more);
            String fullBelow = "d0 b" + buffer + ' ' + Calls.times(buffer, "+0:1 e0 e1");
            check.answerIs(fullBelow, "applied", tree -> tree.count(3), 0);
            check.answerIs(fullBelow + "+0:1 e0 e1", "applied", tree -> tree.count(3), more);
        }
    }

    private static void alsoIfItWasTakenOut() {
        check.sentence("whether it is in the buffer or was taken out");
        check.bufferIs("=0:1 =9:2 =18:3 =19:4 b2 +0:5", 0, "=0-0:6 =9-9:2");
        check.bufferIs("+0:1 =9:2 =18:3 =19:4 b2 +0:5", 0, "+0-0:6 =9-9:2");
        check.bufferIs("x0 =9:2 =18:3 =19:4 b2 +0:5", 0, "x0-0:0 =9-9:2");
        check.bufferIs("=0:1 =9:2 =18:3 =19:4 b2 =0:5", 0, "=9-9:2 =0-0:5");
        check.bufferIs("=0:1 =1:2 =2:3 =3:4 e0 b2 +0:5 e0", 1, "=3-3:4");
        check.bufferIs("=0:1 =1:2 =2:3 =3:4 e0 b2 +0:5 e0", 4, "=1-1:2 =2-2:3");
        check.answerIs("=0:1 =1:2 =2:3 =3:4 e0 b2 +0:5 e0", "leaf 0", tree -> tree.ofKey(0, 0), 6);
    }

    private static void aJoinedStoneIsNoStoneMore() {
        check.sentence("When a stone has come to a node (and doubles are one), then ... as long as the buffer ... is too full");
        for (String more : new String[] {"=0:9", "+0:9", "x0"}) {
            check.answerIs("=0:1 =1:1 =2:1 =3:1 " + more, "went down", tree -> tree.count(2), 0);
        }
        check.answerIs("=0:1 =1:1 =2:1 =3:1 =4:9", "went down", tree -> tree.count(2), 5 + 3);
    }

    private static void asLongAsItIsTooFull() {
        check.sentence("as long as the buffer of this node is too full");
        check.bufferIs("=0:1 =9:2 =18:3 =1:4 b1 =10:5", 0, "=18-18:3");
        check.bufferIs("=0:1 =9:2 =18:3 =1:4 b3 =10:5", 0, "=9-9:2 =18-18:3 =10-10:5");
        check.answerIs("b1 +0-26:1 +0-26:2", "three children one after the other", tree -> tree.ofNode(0, 3), 3);
        check.answerIs("b1 +0-26:1 +0-26:2", "all go down to the leaves", tree -> tree.count(2), 6 + 18 + 54);
        check.answerIs("b1 +0-26:1 +0-26:2", "nothing is left", tree -> tree.count(0), 0);
        check.bufferIs("b1 +0-8:1 +0-26:2", 0, "+9-26:2");
    }

    private static void onlyTheNodeToWhichItCame() {
        check.sentence("as long as the buffer of this node is too full");
        String node1IsTooFull = "=0:1 =1:2 =2:3 =3:4 e0 b1 ";
        check.answerIs(node1IsTooFull + "=9:1 e0", "node 1", tree -> tree.ofNode(1, 0), 4);
        check.answerIs(node1IsTooFull + "=9:1 =10:1", "node 1", tree -> tree.ofNode(1, 0), 4);
        check.answerIs(node1IsTooFull + "=4:1", "it is in the root still", tree -> tree.ofNode(1, 0), 4);
        check.bufferIs(node1IsTooFull + "=4:1 e0", 1, "");
    }

    private static void theChildWithTheMostStones() {
        check.sentence("the one is chosen that has the most stones in the buffer that have one of its keys");
        check.bufferIs("b3 =0:1 =9:1 =18:1 =26:1", 0, "=0-0:1 =9-9:1");
        check.bufferIs("b3 =0:1 =9:1 =18:1 =17:1", 0, "=0-0:1 =18-18:1");
        check.bufferIs("b3 =0:1 =9:1 =18:1 =8:1", 0, "=9-9:1 =18-18:1");
        check.bufferIs("d0 b2 +0:1 e0 +6:1 e0 +8:1 e0", 1, "+0-0:1");
        check.bufferIs("d0 b2 +0:1 e0 +3:1 e0 +5:1 e0", 1, "+0-0:1");
    }

    private static void aPieceCountsForEachOnce() {
        check.sentence("a stone of a piece counts for each of them, once");
        check.bufferIs("b2 +0-8:1 =9:1 =10:1", 0, "+0-8:1");
        check.bufferIs("b2 =0:1 =18:1 +9-18:1", 0, "=0-0:1 +9-17:1");
        check.bufferIs("b2 =0:1 =9:1 +9-18:1", 0, "=0-0:1 +18-18:1");
        check.bufferIs("b2 =9:1 =18:1 +8-17:1", 0, "=18-18:1 +8-8:1");
        check.answerIs("+0-26:1", "heaviest(0)", tree -> tree.heaviest(0), 1);
    }

    private static void ofSeveralTheFirst() {
        check.sentence("of several the first one");
        check.bufferIs("b2 =18:1 =9:1 =0:1", 0, "=18-18:1 =9-9:1");
        check.bufferIs("b3 =18:1 =9:1 =19:1 =10:1", 0, "=18-18:1 =19-19:1");
        check.bufferIs("b3 =18:1 =0:1 =19:1 =1:1", 0, "=18-18:1 =19-19:1");
        check.bufferIs("b3 =9:1 =0:1 =10:1 =1:1", 0, "=9-9:1 =10-10:1");
        check.bufferIs("b2 =6:1 e0 =3:1 e0 =0:1 e0", 1, "=6-6:1 =3-3:1");
        check.bufferIs("b2 =2:1 e0 e1 =1:1 e0 e1 =0:1 e0 e1", 4, "=2-2:1 =1-1:1");
    }

    private static void keysOfALowNode() {
        check.sentence("(of a low node: of its three keys) the one is chosen that has the most stones");
        String node12 = "d0 b3 =24:1 e0 e3 =25:2 e0 e3 =26:3 e0 e3 ";
        check.bufferIs(node12 + "+26:4 e0 e3", 12, "=24-24:1 =25-25:2");
        check.answerIs(node12 + "+26:4 e0 e3", "leaf 26", tree -> tree.ofKey(26, 0), 7);
        check.bufferIs(node12 + "+25:4 e0 e3", 12, "=24-24:1 =26-26:3");
        check.bufferIs(node12 + "+25-26:4 e0 e3", 12, "=24-24:1 =26-26:3 +26-26:4");
        check.bufferIs(node12 + "+24-26:4 e0 e3", 12, "=25-25:2 =26-26:3 +25-26:4");
    }

    private static void allStonesFromTheFirstToTheLast() {
        check.sentence("all these stones, from the first one to the last one, go down");
        check.bufferIs("d0 b4 =5:7 =9:1 x5 =18:1 +0-8:1", 1, "=5-5:7 x5-5:0 +0-8:1");
        check.bufferIs("d0 b4 =5:7 =9:1 x5 =18:1 +0-8:1", 0, "=9-9:1 =18-18:1");
        check.answerIs("d0 b2 =5:7 x5 +5:1", "leaf 5", tree -> tree.ofKey(5, 0), Check.NONE);
        check.answerIs("d0 b2 x5 =5:7 +5:1", "leaf 5", tree -> tree.ofKey(5, 0), 8);
        check.bufferIs("d0 =5:7 x5 +5:1 e0", 1, "=5-5:7 x5-5:0 +5-5:1");
    }

    private static void allKeysBelongToTheChild() {
        check.sentence("a stone whose keys all belong to the child is taken out");
        check.bufferIs("b2 +9-17:5 =10:1 =11:1", 0, "");
        check.bufferIs("b2 +0-8:5 =0:1 =8:1", 0, "");
        check.bufferIs("b2 +18-26:5 =18:1 =26:1", 0, "");
        check.answerIs("b2 +9-17:5 =10:1 =11:1", "one stone each", tree -> tree.ofNode(0, 4), 3);
    }

    private static void partsAheadAndBehindStay() {
        check.sentence("of another one the part that has keys of the child goes down as a stone of its own, and what is left stays: "
            + "the part ahead of the child's keys, and behind it, as a stone of its own, the part behind them");
        check.bufferIs("b2 +9-18:5 =10:1 =11:1", 0, "+18-18:5");
        check.bufferIs("b2 +8-17:5 =10:1 =11:1", 0, "+8-8:5");
        check.bufferIs("b2 +8-18:5 =10:1 =11:1", 0, "+8-8:5 +18-18:5");
        check.bufferIs("b2 +0-26:5 =10:1 =11:1", 0, "+0-8:5 +18-26:5");
        check.bufferIs("b4 +8-18:5 =10:1 e0", 2, "+9-17:5 =10-10:1");
        check.bufferIs("b4 +8-9:5 =10:1 e0", 2, "+9-9:5 =10-10:1");
        check.bufferIs("b4 +17-18:5 =10:1 e0", 2, "+17-17:5 =10-10:1");
        check.bufferIs("b4 +17-18:5 e0", 3, "+18-18:5");
        check.answerIs("b2 +8-18:5 =10:1 =11:1", "went down from the root", tree -> tree.ofNode(0, 4), 3);
        check.bufferIs("b1 +3-20:5 =12:4", 2, "+15-17:5");
        check.bufferIs("b1 +3-20:5 =12:4", 8, "+13-14:5");
    }

    private static void whatIsLeftStaysAtItsPlace() {
        check.sentence("what is left stays at its place");
        check.bufferIs("=0:1 +8-18:5 =10:2 =26:3 =11:4", 0, "=0-0:1 +8-8:5 +18-18:5 =26-26:3");
        check.bufferIs("=0:1 +8-9:5 =10:2 =26:3 =11:4", 0, "=0-0:1 +8-8:5 =26-26:3");
        check.bufferIs("b6 +7-9:5 =10:2 =0:1 +8-18:6 =26:3 +17-20:4 =11:7", 0, "+7-8:5 =0-0:1 +8-8:6 +18-18:6 =26-26:3 +18-20:4");
    }

    private static void whatIsLeftBecomesOneWithNone() {
        check.sentence("(it does not come to the node by that, so it becomes one with none)");
        String calls = "=8:1 +8-18:5 =10:1 =11:1 =12:1";
        check.bufferIs(calls, 0, "=8-8:1 +8-8:5 +18-18:5");
        check.answerIs(calls, "joined", tree -> tree.ofNode(0, 5), 0);
        check.bufferIs(calls + " +8:1", 0, "=8-8:1 +8-8:6 +18-18:5");
        check.bufferIs("=18:1 +8-18:5 =10:1 =11:1 =12:1", 0, "=18-18:1 +8-8:5 +18-18:5");
    }

    /** Of three stones the first goes on before the third comes; if all came first, it would stay. */
    private static void oneStoneAfterTheOther() {
        check.sentence("What goes down comes to the child, one stone after the other (each of them with all that comes of it, before the next one)");
        String calls = "d0 =0:1 =3:2 =3:3 b1 e0";
        check.bufferIs(calls, 1, "");
        check.bufferIs(calls, 4, "=0-0:1");
        check.bufferIs(calls, 5, "");
        check.answerIs(calls, "leaf 3", tree -> tree.ofKey(3, 0), 3);
        check.answerIs(calls, "node 1 gave twice", tree -> tree.ofNode(1, 3), 2);
    }

    private static void inALowNodeTheyAreApplied() {
        check.sentence("In a low node, what goes down to a key is applied to the value of the key");
        StoneTree tree = Calls.tree("d0 b2 =0:1 e0 e1 =2:2 e0 e1 +0-2:3 e0 e1");
        check.due("leaf 0", tree.ofKey(0, 0), 4);
        check.due("leaf 1", tree.ofKey(1, 0), Check.NONE);
        check.due("leaf 2", tree.ofKey(2, 0), Check.NONE);
        check.due("node 4", Check.buffer(tree, 4), "=2-2:2 +1-2:3");
        check.due("applied", tree.count(3), 2);
    }

    /** Ten stones are cut in two, and one loses its first part: 21 lie there, until the last child gets its own. */
    private static void theMostPartsInOneBuffer() {
        check.sentence("what is left stays at its place ... as long as the buffer of this node is too full");
        StringBuilder calls = new StringBuilder("b10");
        StringBuilder left = new StringBuilder();
        for (int number = 0; number < 10; number++) {
            calls.append(" +8-18:").append(number);
            left.append(number == 0 ? "" : " ").append("+8-8:").append(number);
        }
        calls.append(" +9-18:10");
        check.bufferIs(calls.toString(), 0, left.toString());
        check.answerIs(calls.toString(), "went down from the root", tree -> tree.ofNode(0, 4), 22);
    }
}
