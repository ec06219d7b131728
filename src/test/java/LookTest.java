/** Promises 6 to 9: stone, ofNode, ofKey, count. */
public final class LookTest {
    private static final Check check = new Check();

    public static void main(String[] args) {
        numbersOfAStone();
        noSuchNodeOrStone();
        whatOfAStone();
        stonesInANode();
        howOftenAChildGotStones();
        stonesThatItSentDown();
        stonesThatBecameOne();
        noSuchNode();
        whatOfANode();
        valueInTheLeaf();
        valueAsRead();
        stonesThatHaveAKey();
        theDeepestNode();
        noSuchKey();
        whatOfAKey();
        stonesInAllBuffers();
        stonesSent();
        stonesThatWentDown();
        stonesApplied();
        buffersLookedAt();
        keysThatAreNotAbsent();
        lengthOfThePad();
        changesThatCanBeUndone();
        theSettings();
        whatOfACount();
        looksChangeNothing();
        check.finish();
    }

    private static void numbersOfAStone() {
        check.sentence("6: 0 its kind, 1 its first key, 2 its last key, 3 its number");
        int[][] stones = {{0, 5, 5, 999}, {1, 0, 26, 0}, {2, 26, 26, 0}, {1, 3, 4, 7}};
        StoneTree tree = Calls.tree("=5:999 +0-26:0 x26 +3-4:7");
        for (int place = 0; place < stones.length; place++) {
            for (int what = 0; what < 4; what++) {
                check.due("stone(0, " + place + ", " + what + ")", tree.stone(0, place, what), stones[place][what]);
            }
        }
        check.answerIs("=26:3 e0 e3", "stone(12, 0, 3)", low -> low.stone(12, 0, 3), 3);
    }

    private static void noSuchNodeOrStone() {
        check.sentence("6: NO_SUCH if there is no such node or stone");
        String three = "=5:1 =6:1 =7:1";
        for (int node : new int[] {-1, 13, Integer.MIN_VALUE, Integer.MAX_VALUE}) {
            check.refused("stone(" + node + ", 0, 0)", tree -> tree.stone(node, 0, 0), Check.NO_SUCH);
            check.refused("stone(" + node + ", 0, 4)", tree -> tree.stone(node, 0, 4), Check.NO_SUCH);
        }
        for (int place : new int[] {-1, 3, 4, Integer.MIN_VALUE, Integer.MAX_VALUE}) {
            check.refused(three, "stone(0, " + place + ", 0)", tree -> tree.stone(0, place, 0), Check.NO_SUCH);
            check.refused(three, "stone(0, " + place + ", 4)", tree -> tree.stone(0, place, 4), Check.NO_SUCH);
            check.refused(three, "stone(0, " + place + ", -1)", tree -> tree.stone(0, place, -1), Check.NO_SUCH);
        }
        check.answerIs(three, "the last place", tree -> tree.stone(0, 2, 1), 7);
        for (int node = 1; node <= 12; node++) {
            int of = node;
            check.refused(three, "stone(" + node + ", 0, 0)", tree -> tree.stone(of, 0, 0), Check.NO_SUCH);
        }
        check.refused("", "stone(0, 0, 0)", tree -> tree.stone(0, 0, 0), Check.NO_SUCH);
        check.refused("=5:1 e0", "what went down is not there", tree -> tree.stone(0, 0, 0), Check.NO_SUCH);
        check.refused("=5:1 +5:1", "what became one is not there", tree -> tree.stone(0, 1, 0), Check.NO_SUCH);
    }

    private static void whatOfAStone() {
        check.sentence("6: BAD_VALUE if what is out of range");
        for (int what : new int[] {-1, 4, 5, Integer.MIN_VALUE, Integer.MAX_VALUE}) {
            check.refused("=5:1", "stone(0, 0, " + what + ")", tree -> tree.stone(0, 0, what), Check.BAD_VALUE);
        }
    }

    private static void stonesInANode() {
        check.sentence("7: 0 the stones in its buffer, 1 its first key, 2 its last key");
        check.answerIs("", "ofNode(0, 0)", tree -> tree.ofNode(0, 0), 0);
        check.answerIs("=0:1 =1:1 =2:1 =3:1", "a full one", tree -> tree.ofNode(0, 0), 4);
        check.answerIs("+8-9:1 e0 =5:1", "ofNode(0, 0)", tree -> tree.ofNode(0, 0), 1);
        check.answerIs("+8-9:1 e0 =5:1", "ofNode(1, 0)", tree -> tree.ofNode(1, 0), 1);
        check.answerIs("+8-9:1 e0 =5:1", "ofNode(3, 0)", tree -> tree.ofNode(3, 0), 0);
        check.answerIs("", "ofNode(0, 2)", tree -> tree.ofNode(0, 2), 26);
        check.answerIs("", "ofNode(12, 1)", tree -> tree.ofNode(12, 1), 24);
        check.answerIs("=5:1", "the keys of the node, not of its stones", tree -> tree.ofNode(0, 1), 0);
    }

    private static void howOftenAChildGotStones() {
        check.sentence("7: 3 how often one of its children, or keys, got stones from it so far (one or more at a time)");
        check.answerIs("=5:1", "ofNode(0, 3)", tree -> tree.ofNode(0, 3), 0);
        check.answerIs("e0 e1 e4", "none got stones", tree -> tree.ofNode(0, 3) + tree.ofNode(1, 3) + tree.ofNode(4, 3), 0);
        check.answerIs("=5:1 e0", "one child", tree -> tree.ofNode(0, 3), 1);
        check.answerIs("=5:1 =6:1 =7:1 e0", "three at a time", tree -> tree.ofNode(0, 3), 1);
        check.answerIs("+0-26:1 e0", "three children", tree -> tree.ofNode(0, 3), 3);
        check.answerIs("=5:1 e0 e0 =5:1 e0", "one child twice", tree -> tree.ofNode(0, 3), 2);
        check.answerIs("=0:1 =1:1 =2:1 =3:1 =4:1", "of itself", tree -> tree.ofNode(0, 3), 1);
        check.answerIs("+12-13:1 e0 e2 e8", "keys of a low node", tree -> tree.ofNode(8, 3), 2);
        check.answerIs("+12-13:1 e0 e2 e8", "not of the others", tree -> tree.ofNode(7, 3) + tree.ofNode(9, 3), 0);
    }

    private static void stonesThatItSentDown() {
        check.sentence("7: 4 the stones that it sent down so far (parts count as stones)");
        check.answerIs("=5:1", "ofNode(0, 4)", tree -> tree.ofNode(0, 4), 0);
        check.answerIs("=5:1 =6:1 e0", "two", tree -> tree.ofNode(0, 4), 2);
        check.answerIs("+8-9:1 e0", "two parts of one", tree -> tree.ofNode(0, 4), 2);
        check.answerIs("+0-26:1 e0 e1 e4", "three parts", tree -> tree.ofNode(0, 4), 3);
        check.answerIs("+0-26:1 e0 e1 e4", "three parts of a part", tree -> tree.ofNode(1, 4), 3);
        check.answerIs("+0-26:1 e0 e1 e4", "into leaves, too", tree -> tree.ofNode(4, 4), 3);
        check.answerIs("=5:1 e0 +5:1 e0", "also one that becomes one below", tree -> tree.ofNode(0, 4), 2);
    }

    private static void stonesThatBecameOne() {
        check.sentence("7: 5 the stones that became one with others in it so far (those that were taken out for this, behind an ERASE, too)");
        check.answerIs("=5:1 =6:1", "none", tree -> tree.ofNode(0, 5), 0);
        for (String earlier : new String[] {"=5:1", "+5:1", "x5"}) {
            for (String later : new String[] {"=5:1", "+5:1", "x5"}) {
                check.answerIs(earlier + ' ' + later, "one", tree -> tree.ofNode(0, 5), 1);
            }
        }
        check.answerIs("=5:1 +5:1 x5 +5:1 =5:1", "four", tree -> tree.ofNode(0, 5), 4);
        check.answerIs("=5:1 e0 +5:1 e0", "not in the node above", tree -> tree.ofNode(0, 5), 0);
        check.answerIs("=5:1 e0 +5:1 e0", "in the child", tree -> tree.ofNode(1, 5), 1);
        check.answerIs("=5:1 e0 e1 e5 =5:1 e0 e1 e5", "not in a leaf", tree -> tree.ofNode(5, 5), 0);
    }

    private static void noSuchNode() {
        check.sentence("7: NO_SUCH if there is no such node");
        for (int node : new int[] {-1, 13, 14, Integer.MIN_VALUE, Integer.MAX_VALUE}) {
            for (int what : new int[] {0, 1, 5, 6, -1}) {
                check.refused("ofNode(" + node + ", " + what + ")", tree -> tree.ofNode(node, what), Check.NO_SUCH);
            }
        }
    }

    private static void whatOfANode() {
        check.sentence("7: BAD_VALUE if what is out of range");
        for (int what : new int[] {-1, 6, 7, Integer.MIN_VALUE, Integer.MAX_VALUE}) {
            check.refused("ofNode(0, " + what + ")", tree -> tree.ofNode(0, what), Check.BAD_VALUE);
            check.refused("ofNode(12, " + what + ")", tree -> tree.ofNode(12, what), Check.BAD_VALUE);
        }
        check.answerIs("=5:1 =5:1", "the last what", tree -> tree.ofNode(0, 5), 1);
    }

    private static void valueInTheLeaf() {
        check.sentence("8: 0 its value in the leaf (NONE if it is absent there)");
        check.answerIs("", "ofKey(0, 0)", tree -> tree.ofKey(0, 0), Check.NONE);
        check.answerIs("=5:1 e0 e1", "not above it", tree -> tree.ofKey(5, 0), Check.NONE);
        check.answerIs("=5:0 e0 e1 e5", "0", tree -> tree.ofKey(5, 0), 0);
        check.answerIs("=5:999 e0 e1 e5 x5", "999", tree -> tree.ofKey(5, 0), 999);
    }

    private static void valueAsRead() {
        check.sentence("8: 1 its value as it would be read (NONE if it is absent)");
        check.answerIs("", "ofKey(26, 1)", tree -> tree.ofKey(26, 1), Check.NONE);
        check.answerIs("=5:999 e0 e1 e5 x5", "erased above", tree -> tree.ofKey(5, 1), Check.NONE);
        check.answerIs("=5:999 e0 e1 e5 +5:1", "0", tree -> tree.ofKey(5, 1), 0);
        check.answerIs("=5:7", "looked at", tree -> tree.ofKey(5, 1) == 7 ? tree.count(4) : -1, 0);
    }

    private static void stonesThatHaveAKey() {
        check.sentence("8: 2 the stones in buffers that have it");
        check.answerIs("", "ofKey(0, 2)", tree -> tree.ofKey(0, 2), 0);
        String calls = "=5:1 e0 e1 +5-6:1 e0 +0-5:1 +6-9:1 +0-4:1 =4:1";
        check.answerIs(calls, "key 5", tree -> tree.ofKey(5, 2), 3);
        check.answerIs(calls, "key 4", tree -> tree.ofKey(4, 2), 3);
        check.answerIs(calls, "key 6", tree -> tree.ofKey(6, 2), 2);
        check.answerIs(calls, "key 26", tree -> tree.ofKey(26, 2), 0);
        check.answerIs("d0 =26:1 =26:1", "key 26", tree -> tree.ofKey(26, 2), 2);
        check.answerIs("=5:1 e0 e1 e5", "none in the leaf", tree -> tree.ofKey(5, 2), 0);
    }

    private static void theDeepestNode() {
        check.sentence("8: 3 the deepest node that has a stone with it (NONE)");
        check.answerIs("=5:1 e0 e1 e5", "none", tree -> tree.ofKey(5, 3), Check.NONE);
        check.answerIs("=4:1 =6:1 e0 e1", "none has it", tree -> tree.ofKey(5, 3), Check.NONE);
        check.answerIs("=5:1", "the root", tree -> tree.ofKey(5, 3), 0);
        check.answerIs("=5:1 e0 +0-26:1", "node 1", tree -> tree.ofKey(5, 3), 1);
        check.answerIs("=5:1 e0 e1 +0-26:1 e0 +0-26:1", "node 5", tree -> tree.ofKey(5, 3), 5);
        check.answerIs("=26:1 e0 e3", "node 12", tree -> tree.ofKey(26, 3), 12);
        check.answerIs("=4:1 e0 e1 +5:1", "a stone of another key is below", tree -> tree.ofKey(5, 3), 0);
    }

    private static void noSuchKey() {
        check.sentence("8: NO_SUCH if there is no such key");
        for (int key : new int[] {-1, 27, 28, Integer.MIN_VALUE, Integer.MAX_VALUE}) {
            for (int what : new int[] {0, 1, 2, 3, 4, -1}) {
                check.refused("ofKey(" + key + ", " + what + ")", tree -> tree.ofKey(key, what), Check.NO_SUCH);
            }
        }
    }

    private static void whatOfAKey() {
        check.sentence("8: BAD_VALUE if what is out of range");
        for (int what : new int[] {-1, 4, 5, Integer.MIN_VALUE, Integer.MAX_VALUE}) {
            check.refused("ofKey(0, " + what + ")", tree -> tree.ofKey(0, what), Check.BAD_VALUE);
            check.refused("ofKey(26, " + what + ")", tree -> tree.ofKey(26, what), Check.BAD_VALUE);
        }
    }

    private static void stonesInAllBuffers() {
        check.sentence("9: 0 stones in all buffers");
        check.answerIs("", "count(0)", tree -> tree.count(0), 0);
        check.answerIs("+0-26:1 e0 e3 =26:1", "in three levels", tree -> tree.count(0), 6);
        check.answerIs("=26:1 e0 e3 e12", "none in leaves", tree -> tree.count(0), 0);
    }

    private static void stonesSent() {
        check.sentence("9: 1 stones that were sent so far");
        check.answerIs("", "count(1)", tree -> tree.count(1), 0);
        check.answerIs("=5:1 =5:2 +0-26:1 e0 x5", "joined ones, too; parts are not sent", tree -> tree.count(1), 4);
        check.answerIs("t5=1;5=2;6+1 c", "by orders, too", tree -> tree.count(1), 3);
        check.answerIs("=5:1 =6:1 u", "undone", tree -> tree.count(1), 1);
    }

    private static void stonesThatWentDown() {
        check.sentence("9: 2 stones that went down so far (in all nodes, into leaves, too; parts count as stones)");
        check.answerIs("=5:1 =6:1 =7:1 =8:1", "none", tree -> tree.count(2), 0);
        check.answerIs("=5:1 e0 e1 e5", "into a leaf, too", tree -> tree.count(2), 3);
        check.answerIs("+0-26:1 e0 e1 e4", "parts", tree -> tree.count(2), 9);
    }

    private static void stonesApplied() {
        check.sentence("9: 3 stones that were applied to leaves so far (also if nothing was different by that)");
        check.answerIs("=5:1 e0 e1", "none", tree -> tree.count(3), 0);
        check.answerIs("=5:1 e0 e1 e5", "a SET", tree -> tree.count(3), 1);
        check.answerIs("+5:1 e0 e1 e5", "an ADD to an absent key", tree -> tree.count(3), 1);
        check.answerIs("x5 e0 e1 e5", "an ERASE of an absent key", tree -> tree.count(3), 1);
        check.answerIs("+3-5:1 e0 e1 e5", "three parts", tree -> tree.count(3), 3);
        check.answerIs("=5:1 r5", "not by reading", tree -> tree.count(3), 0);
    }

    private static void buffersLookedAt() {
        check.sentence("9: 4 buffers that were looked at by read() so far (three for each)");
        check.answerIs("", "count(4)", tree -> tree.count(4), 0);
        check.answerIs("r0", "of no stones, too", tree -> tree.count(4), 3);
        check.answerIs("=5:1 r5 r5 r26", "three reads", tree -> tree.count(4), 9);
        check.answerIs("=5:1 r5", "a refused one", tree -> tree.read(27) == Check.NO_SUCH ? tree.count(4) : -1, 3);
        check.answerIs("=5:1", "other looks", tree -> tree.ofKey(5, 1) + tree.sum(0, 26) + tree.same(5, 6) + tree.count(5)
            + 1000 * tree.count(4), 3);
    }

    private static void keysThatAreNotAbsent() {
        check.sentence("9: 5 keys that are not absent as they would be read");
        check.answerIs("", "count(5)", tree -> tree.count(5), 0);
        check.answerIs("=0:0 =26:0", "0 is a value", tree -> tree.count(5), 2);
        check.answerIs("+0-26:1", "an ADD alone", tree -> tree.count(5), 0);
        check.answerIs("=5:1 e0 e1 e5 x5 =6:1", "erased above its leaf", tree -> tree.count(5), 1);
        StringBuilder all = new StringBuilder();
        for (int key = 0; key < 27; key++) {
            all.append("=").append(key).append(":0 ");
        }
        check.answerIs(all.toString(), "all", tree -> tree.count(5), 27);
    }

    private static void lengthOfThePad() {
        check.sentence("9: 6 the length of the pad");
        check.answerIs("", "count(6)", tree -> tree.count(6), 0);
        check.answerIs("t5=1;6 t=2", "count(6)", tree -> tree.count(6), 7);
        check.answerIs("t" + "x".repeat(60), "the longest", tree -> tree.count(6), 60);
        check.answerIs("t5=1 c", "carried out", tree -> tree.count(6), 0);
        check.answerIs("t5=1 w", "wiped", tree -> tree.count(6), 0);
    }

    private static void changesThatCanBeUndone() {
        check.sentence("9: 7 how many changes can be undone");
        for (int changes = 0; changes <= 8; changes++) {
            check.answerIs(Calls.times(changes, "r5"), "count(7)", tree -> tree.count(7), Math.min(6, changes));
        }
        check.answerIs("r5 r5 u", "count(7)", tree -> tree.count(7), 1);
    }

    private static void theSettings() {
        check.sentence("9: 8, 9 the settings");
        check.answerIs("b10", "count(8)", tree -> tree.count(8), 10);
        check.answerIs("b10", "count(9)", tree -> tree.count(9), 1);
        check.answerIs("d0", "count(8)", tree -> tree.count(8), 4);
        check.answerIs("d0", "count(9)", tree -> tree.count(9), 0);
    }

    private static void whatOfACount() {
        check.sentence("9: BAD_VALUE if what is out of range");
        for (int what : new int[] {-1, 10, 11, Integer.MIN_VALUE, Integer.MAX_VALUE}) {
            check.refused("count(" + what + ")", tree -> tree.count(what), Check.BAD_VALUE);
        }
    }

    private static void looksChangeNothing() {
        check.sentence("---- what there is (none of these calls is a change)");
        StoneTree tree = Calls.tree(Check.BUSY);
        tree.stone(0, 0, 0);
        tree.ofNode(0, 0);
        tree.ofKey(5, 1);
        tree.count(5);
        check.due("all that shows", Check.everything(tree), Check.everything(Calls.tree(Check.BUSY)));
    }
}
