/** Compares answers with what is due, and looks at all that a StoneTree shows. */
final class Check {
    static final int NODES = 13, KEYS = 27;
    private int wrong = 0;

    void due(String call, long got, long want) {
        if (got != want) {
            wrong++;
            System.out.println(call + " answered " + got + ", due is " + want);
        }
    }

    void due(String call, String got, String want) {
        if (!got.equals(want)) {
            wrong++;
            System.out.println(call + " answered\n  " + got + "\ndue is\n  " + want);
        }
    }

    /** Calls that return an error change nothing. */
    void error(StoneTree tree, String call, java.util.function.IntSupplier wrongCall, int want) {
        String before = everything(tree);
        due(call, wrongCall.getAsInt(), want);
        due("after " + call + " all that shows", everything(tree), before);
    }

    void finish() {
        System.out.println(wrong == 0 ? "all answers are as due" : wrong + " answers are not as due");
        if (wrong != 0) {
            System.exit(1);
        }
    }

    /** The buffer of a node: kind, first key, last key and number of each stone. */
    static String buffer(StoneTree tree, int node) {
        StringBuilder row = new StringBuilder();
        for (int place = 0; place < tree.ofNode(node, 0); place++) {
            row.append(place == 0 ? "" : " ").append("=+x".charAt(tree.stone(node, place, 0)));
            row.append(tree.stone(node, place, 1)).append('-').append(tree.stone(node, place, 2));
            row.append(':').append(tree.stone(node, place, 3));
        }
        return row.toString();
    }

    static String everything(StoneTree tree) {
        return state(tree) + " pad " + tree.count(6) + ' ' + tree.fault() + " history " + tree.count(7);
    }

    /** All that undo and restore bring back. */
    static String state(StoneTree tree) {
        StringBuilder all = new StringBuilder("counts");
        for (int what : new int[] {0, 1, 2, 3, 4, 5, 8, 9}) {
            all.append(' ').append(tree.count(what));
        }
        for (int node = 0; node < NODES; node++) {
            all.append("\n  node ").append(node).append(':');
            for (int what = 0; what <= 5; what++) {
                all.append(' ').append(tree.ofNode(node, what));
            }
            all.append(" [").append(buffer(tree, node)).append(']');
        }
        for (int key = 0; key < KEYS; key++) {
            all.append("\n  key ").append(key).append(':');
            for (int what = 0; what <= 3; what++) {
                all.append(' ').append(tree.ofKey(key, what));
            }
        }
        return all.toString();
    }

    /** Characters as put() wants them. */
    static long packed(String characters) {
        long number = 0;
        for (int index = 0; index < characters.length(); index++) {
            number = number << 8 | characters.charAt(index);
        }
        return number;
    }

    static void write(StoneTree tree, String text) {
        tree.wipe();
        for (int from = 0; from < text.length(); from += 8) {
            tree.put(packed(text.substring(from, Math.min(from + 8, text.length()))));
        }
    }

    static int faultOf(String text) {
        StoneTree tree = new StoneTree();
        write(tree, text);
        return tree.fault();
    }
}
