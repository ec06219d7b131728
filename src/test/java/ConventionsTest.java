/** The document's conventions, and the settings: what binds every promise. */
public final class ConventionsTest {
    private static final Check check = new Check();

    public static void main(String[] args) {
        theFirstErrorThatApplies();
        anErrorChangesNothing();
        noneOnlyIfNoErrorApplies();
        numberedFrom0();
        the512thCall();
        bufferIsFrom1To10();
        doublesIs0Or1();
        firstValues();
        check.finish();
    }

    private static void theFirstErrorThatApplies() {
        check.sentence("it names its errors in the order in which they are checked, and the first one that applies is returned");
        check.refused("send(3, 27, 27, 0)", tree -> tree.send(3, 27, 27, 0), Check.BAD_VALUE);
        check.refused("send(0, -1, -1, 1000)", tree -> tree.send(0, -1, -1, 1000), Check.BAD_VALUE);
        check.refused("send(2, 3, 4, 1)", tree -> tree.send(2, 3, 4, 1), Check.BAD_VALUE);
        check.refused("send(1, 4, 3, -1)", tree -> tree.send(1, 4, 3, -1), Check.BAD_VALUE);
        check.refused("stone(13, 0, 4)", tree -> tree.stone(13, 0, 4), Check.NO_SUCH);
        check.refused("stone(0, 99, -1)", tree -> tree.stone(0, 99, -1), Check.NO_SUCH);
        check.refused("ofNode(13, 6)", tree -> tree.ofNode(13, 6), Check.NO_SUCH);
        check.refused("ofNode(-1, -1)", tree -> tree.ofNode(-1, -1), Check.NO_SUCH);
        check.refused("ofKey(27, 4)", tree -> tree.ofKey(27, 4), Check.NO_SUCH);
        check.refused("ofKey(-1, -1)", tree -> tree.ofKey(-1, -1), Check.NO_SUCH);
        String fullPad = "t" + "0x;".repeat(19) + "10x";
        check.refused(fullPad, "put(32)", tree -> tree.put(32), Check.BAD_VALUE);
        check.refused(fullPad, "put(0)", tree -> tree.put(0), Check.BAD_VALUE);
        check.refused("=5:1", "restore(2)", tree -> tree.restore(2), Check.BAD_VALUE);
        check.refused("=5:1", "restore(-1)", tree -> tree.restore(-1), Check.BAD_VALUE);
    }

    /** One of each method that has an error; the tests of the promises have the others. */
    private static void anErrorChangesNothing() {
        check.sentence("A call that returns an error changes nothing");
        check.refused("set(0, 11)", tree -> tree.set(0, 11), Check.BAD_VALUE);
        check.refused("send(1, 20, 27, 5)", tree -> tree.send(1, 20, 27, 5), Check.NO_SUCH);
        check.refused("empty(13)", tree -> tree.empty(13), Check.NO_SUCH);
        check.refused("read(27)", tree -> tree.read(27), Check.NO_SUCH);
        check.refused("put(\"5 5\")", tree -> tree.put(0x352035), Check.BAD_VALUE);
        check.refused("save(2)", tree -> tree.save(2), Check.BAD_VALUE);
        check.refused("restore(2)", tree -> tree.restore(2), Check.BAD_VALUE);
        check.refused("", "undo()", StoneTree::undo, Check.NOT_POSSIBLE);
        check.refused("=5:1 s1", "restore(0)", tree -> tree.restore(0), Check.NOT_POSSIBLE);
        check.refused("=5:1 s1 t5=1;", "carryOut()", StoneTree::carryOut, Check.BAD_TEXT);
    }

    private static void noneOnlyIfNoErrorApplies() {
        check.sentence("NONE (-6) is not an error; it is returned only if no error applies");
        check.answerIs("", "read(26)", tree -> tree.read(26), Check.NONE);
        check.answerIs("", "read(27)", tree -> tree.read(27), Check.NO_SUCH);
        check.answerIs("", "heaviest(12)", tree -> tree.heaviest(12), Check.NONE);
        check.answerIs("", "heaviest(13)", tree -> tree.heaviest(13), Check.NO_SUCH);
        check.answerIs("", "ofKey(26, 3)", tree -> tree.ofKey(26, 3), Check.NONE);
        check.answerIs("", "ofKey(26, 4)", tree -> tree.ofKey(26, 4), Check.BAD_VALUE);
        check.answerIs("", "ofKey(27, 3)", tree -> tree.ofKey(27, 3), Check.NO_SUCH);
        check.answerIs("", "read(26) that answers NONE is a change", tree -> tree.read(26) + tree.count(7), Check.NONE + 1);
    }

    private static void numberedFrom0() {
        check.sentence("Everything is numbered from 0");
        StoneTree tree = Calls.tree("=0:7 s0");
        check.due("read(0)", tree.read(0), 7);
        check.due("stone(0, 0, 3)", tree.stone(0, 0, 3), 7);
        check.due("heaviest(0)", tree.heaviest(0), 1);
        check.due("empty(0)", tree.empty(0), 1);
        check.due("restore(0)", tree.restore(0), 1);
        tree.put('x');
        check.due("fault()", tree.fault(), 0);
    }

    private static void the512thCall() {
        check.sentence("An object is used for at most 512 calls after it has been made");
        StoneTree tree = new StoneTree();
        for (int call = 1; call < 512; call++) {
            tree.send(1, 0, 26, 999);
        }
        check.due("count(1), the 512th call", tree.count(1), 511);
        StoneTree dear = Calls.tree("d0 b10 " + Calls.times(10, "+0-26:1"));
        for (int call = 13; call < 512; call++) {
            check.due("worstKey(1), call " + call, dear.worstKey(1), 63);
        }
        check.due("worstKey(0), the 512th call", dear.worstKey(0), 13);
    }

    private static void bufferIsFrom1To10() {
        check.sentence("BUFFER (1 to 10; 4)");
        for (int value = 1; value <= 10; value++) {
            int set = value;
            check.answerIs("", "BUFFER set to " + value, tree -> tree.set(0, set) == 4 ? tree.count(8) : -1, value);
        }
        for (int value : new int[] {0, 11, 12, -1, Integer.MIN_VALUE, Integer.MAX_VALUE, 1 << 8 | 5}) {
            check.refused("set(0, " + value + ")", tree -> tree.set(0, value), Check.BAD_VALUE);
        }
    }

    private static void doublesIs0Or1() {
        check.sentence("DOUBLES (0 or 1; 1)");
        check.answerIs("", "set(1, 0)", tree -> tree.set(1, 0) == 1 ? tree.count(9) : -1, 0);
        check.answerIs("d0", "set(1, 1)", tree -> tree.set(1, 1) == 0 ? tree.count(9) : -1, 1);
        for (int value : new int[] {-1, 2, 3, 4, 10, Integer.MIN_VALUE, Integer.MAX_VALUE}) {
            check.refused("set(1, " + value + ")", tree -> tree.set(1, value), Check.BAD_VALUE);
        }
    }

    private static void firstValues() {
        check.sentence("(In parentheses: range; first value.)");
        check.answerIs("", "count(8)", tree -> tree.count(8), 4);
        check.answerIs("", "count(9)", tree -> tree.count(9), 1);
        check.answerIs("", "set(0, 4)", tree -> tree.set(0, 4), 4);
        check.answerIs("", "set(1, 1)", tree -> tree.set(1, 1), 1);
    }
}
