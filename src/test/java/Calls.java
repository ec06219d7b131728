/**
 * A StoneTree made by a row of calls, each written shortly:
 * "=5:10" sends a SET, "+5:3" and "+3-20:7" an ADD, "x26" an ERASE; "b2" sets BUFFER, "d0" DOUBLES; "e0" empties node
 * 0, "r5" reads key 5; "t5=1;6x" puts a text to the pad, "w" wipes it, "c" carries it out; "s0" saves to slot 0, "l0"
 * restores it, "u" undoes. Each of these calls has to succeed; an object is made for at most some 60 of them, so that
 * all that is looked at afterwards stays within the 512 calls that the document promises.
 */
final class Calls {
    private Calls() {
    }

    static StoneTree tree(String calls) {
        StoneTree tree = new StoneTree();
        for (String call : calls.split(" ")) {
            if (!call.isEmpty() && carryOut(tree, call) < 0) {
                throw new IllegalStateException(call + " of " + calls + " was refused");
            }
        }
        return tree;
    }

    /** The same row of calls, some times. */
    static String times(int times, String calls) {
        return (calls + ' ').repeat(times);
    }

    private static int carryOut(StoneTree tree, String call) {
        String rest = call.substring(1);
        switch (call.charAt(0)) {
            case '=': return send(tree, StoneTree.SET, rest);
            case '+': return send(tree, StoneTree.ADD, rest);
            case 'x': return send(tree, StoneTree.ERASE, rest + ":0");
            case 'b': return tree.set(StoneTree.BUFFER, Integer.parseInt(rest));
            case 'd': return tree.set(StoneTree.DOUBLES, Integer.parseInt(rest));
            case 'e': return tree.empty(Integer.parseInt(rest));
            case 'r': return Math.max(0, tree.read(Integer.parseInt(rest)));
            case 't': return put(tree, rest);
            case 'w': return tree.wipe();
            case 'c': return tree.carryOut();
            case 's': return tree.save(Integer.parseInt(rest));
            case 'l': return tree.restore(Integer.parseInt(rest));
            case 'u': return tree.undo();
            default: throw new IllegalArgumentException(call);
        }
    }

    private static int send(StoneTree tree, int kind, String stone) {
        String[] parts = stone.split(":");
        String[] keys = parts[0].split("-");
        return tree.send(kind, Integer.parseInt(keys[0]), Integer.parseInt(keys[keys.length - 1]), Integer.parseInt(parts[1]));
    }

    static int put(StoneTree tree, String text) {
        int length = tree.count(6);
        for (int from = 0; from < text.length() && length >= 0; from += 8) {
            length = tree.put(packed(text.substring(from, Math.min(from + 8, text.length()))));
        }
        return length;
    }

    /** Characters as put() wants them. */
    static long packed(String characters) {
        long number = 0;
        for (int index = 0; index < characters.length(); index++) {
            number = number << 8 | characters.charAt(index);
        }
        return number;
    }
}
