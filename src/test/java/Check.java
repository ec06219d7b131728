import java.util.function.Function;
import java.util.function.ToIntFunction;

/** Compares answers with what is due, and looks at all that a StoneTree shows. */
final class Check {
    static final int NO_SUCH = -1, BAD_VALUE = -2, BAD_TEXT = -3, TOO_MANY = -4, NOT_POSSIBLE = -5, NONE = -6;
    static final int NODES = 13, KEYS = 27, STATES = 6;
    static final int[] BELOW_0 = {-1, -2, Integer.MIN_VALUE};

    /**
     * Something of everything: a full history of states that differ, two slots that differ, a pad with orders, stones on
     * all levels, leaves, joined stones, other settings. A change by a refused call would show.
     */
    static final String BUSY = "=4:5 =5:10 +5:3 e0 e1 e5 s0 b2 +3-20:7 =12:999 x26 e2 r5 s1 b3 d0 =9:1 e0 =9:2 +8-9:4 r9 "
        + "t5=10;6+1;7x";

    private int wrong = 0;
    private String sentence = "";

    /** Names the sentence of the document by which the next answers are due. */
    void sentence(String words) {
        sentence = words;
    }

    void due(String call, long got, long want) {
        if (got != want) {
            wrong++;
            System.out.println(told(call) + " answered " + got + ", due is " + want);
        }
    }

    void due(String call, String got, String want) {
        if (!got.equals(want)) {
            wrong++;
            System.out.println(told(call) + " answered\n  " + got + "\ndue is\n  " + want);
        }
    }

    private String told(String call) {
        return sentence.isEmpty() ? call : '"' + sentence + "\": " + call;
    }

    /** The buffer of a node after a row of calls. */
    void bufferIs(String calls, int node, String want) {
        due("the buffer of node " + node + " after " + calls, buffer(Calls.tree(calls), node), want);
    }

    /** One answer after a row of calls. */
    void answerIs(String calls, String call, ToIntFunction<StoneTree> asked, int want) {
        due(call + " after " + calls, asked.applyAsInt(Calls.tree(calls)), want);
    }

    /** An error, by which nothing changes; where it depends on no state, BUSY calls are ahead of it. */
    void refused(String call, ToIntFunction<StoneTree> refused, int want) {
        refused(BUSY, call, refused, want);
    }

    /**
     * An error, and that all is as if the call had not been: what shows, what each undo brings back, the slots, the pad.
     * Each look needs an object of its own, and a second one that was not called, as looking changes them.
     */
    void refused(String calls, String call, ToIntFunction<StoneTree> refused, int want) {
        String told = call + " after " + calls;
        same(told, " all that shows", calls, refused, want, Check::everything);
        for (int undone = 1; undone <= STATES; undone++) {
            int times = undone;
            same(told, ", undone " + undone, calls, refused, want, tree -> undone(tree, times));
        }
        for (int slot = 0; slot < 2; slot++) {
            int of = slot;
            same(told, ", slot " + slot, calls, refused, want, tree -> tree.restore(of) + everything(tree));
        }
        same(told, ", the pad", calls, refused, want, tree -> tree.carryOut() + everything(tree));
    }

    private void same(String told, String look, String calls, ToIntFunction<StoneTree> refused, int want,
            Function<StoneTree, String> looked) {
        StoneTree tree = Calls.tree(calls);
        due(told, refused.applyAsInt(tree), want);
        due(told + look, looked.apply(tree), looked.apply(Calls.tree(calls)));
    }

    private static String undone(StoneTree tree, int times) {
        int left = 0;
        for (int time = 0; time < times; time++) {
            left = tree.undo();
        }
        return left + everything(tree);
    }

    void finish() {
        System.out.println(wrong == 0 ? "all answers are as due" : wrong + " answers are not as due");
        if (wrong != 0) {
            System.exit(1);
        }
    }

    /** The buffer of a node: kind, first key, last key and number of each stone. */
    static String buffer(StoneTree tree, int node) {
        StringBuilder row = new StringBuilder();
        int stones = tree.ofNode(node, 0);
        for (int place = 0; place < stones; place++) {
            row.append(place == 0 ? "" : " ").append("=+x".charAt(tree.stone(node, place, 0)));
            row.append(tree.stone(node, place, 1)).append('-').append(tree.stone(node, place, 2));
            row.append(':').append(tree.stone(node, place, 3));
        }
        return row.toString();
    }

    static String everything(StoneTree tree) {
        return state(tree) + " pad " + tree.count(6) + ' ' + tree.fault() + " history " + tree.count(7);
    }

    /** All that undo and restore bring back, by some 400 calls at most. */
    static String state(StoneTree tree) {
        StringBuilder all = new StringBuilder("counts");
        for (int what : new int[] {0, 1, 2, 3, 4, 5, 8, 9}) {
            all.append(' ').append(tree.count(what));
        }
        for (int node = 0; node < NODES; node++) {
            all.append("\n  node ").append(node).append(':');
            for (int what = 3; what <= 5; what++) {
                all.append(' ').append(tree.ofNode(node, what));
            }
            all.append(" [").append(buffer(tree, node)).append(']');
        }
        all.append("\n  leaves");
        for (int key = 0; key < KEYS; key++) {
            all.append(' ').append(tree.ofKey(key, 0));
        }
        return all.toString();
    }

    static int faultOf(String text) {
        StoneTree tree = new StoneTree();
        Calls.put(tree, text);
        return tree.fault();
    }
}
