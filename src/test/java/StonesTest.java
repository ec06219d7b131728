/** Promises 2 to 5: set, send, empty, read. */
public final class StonesTest {
    private static final Check check = new Check();

    public static void main(String[] args) {
        setReturnsThePreviousValue();
        nothingSinksBySet();
        setIsAChange();
        noSuchSetting();
        sendReturnsTheStonesInAllBuffers();
        sendIsAChange();
        kindOrNumberOutOfRange();
        numberOfAnErase();
        noSuchKey();
        lastNotAsTold();
        lastBelowFirst();
        sendAtTheEdges();
        emptyGivesAllToAll();
        notThoseBelow();
        unlessTheyBecomeTooFull();
        emptyReturnsTheStonesInAllBuffers();
        emptyIsAChange();
        noSuchNode();
        readReturnsTheValue();
        readIsAChangeOfWhatWasLookedAtAlone();
        noSuchKeyToRead();
        noneIfItIsAbsent();
        check.finish();
    }

    private static void setReturnsThePreviousValue() {
        check.sentence("2: Returns the previous value");
        check.answerIs("", "set(0, 1)", tree -> tree.set(0, 1), 4);
        check.answerIs("b1", "set(0, 10)", tree -> tree.set(0, 10), 1);
        check.answerIs("b10", "set(0, 10)", tree -> tree.set(0, 10), 10);
        check.answerIs("", "set(1, 0)", tree -> tree.set(1, 0), 1);
        check.answerIs("d0", "set(1, 0)", tree -> tree.set(1, 0), 0);
        check.answerIs("d0", "set(0, 5), of the other setting", tree -> tree.set(0, 5), 4);
    }

    private static void nothingSinksBySet() {
        check.sentence("2: nothing sinks by this");
        check.bufferIs("=0:1 =1:1 =2:1 =3:1 b1", 0, "=0-0:1 =1-1:1 =2-2:1 =3-3:1");
        check.answerIs("=0:1 =1:1 =2:1 =3:1 b1", "went down", tree -> tree.count(2), 0);
        check.bufferIs("d0 =0:1 =0:2 d1", 0, "=0-0:1 =0-0:2");
    }

    private static void setIsAChange() {
        check.sentence("2: This is a change");
        check.answerIs("b4", "count(7)", tree -> tree.count(7), 1);
        check.answerIs("b7 d0 u", "count(9)", tree -> tree.count(9), 1);
        check.answerIs("b7 d0 u", "count(8)", tree -> tree.count(8), 7);
        check.answerIs("b7 d0 u u", "count(8)", tree -> tree.count(8), 4);
    }

    private static void noSuchSetting() {
        check.sentence("2: BAD_VALUE if there is no such setting, or the value is out of its range");
        for (int setting : new int[] {-1, 2, 3, 9, Integer.MIN_VALUE, Integer.MAX_VALUE}) {
            check.refused("set(" + setting + ", 1)", tree -> tree.set(setting, 1), Check.BAD_VALUE);
        }
        check.refused("set(2, 11)", tree -> tree.set(2, 11), Check.BAD_VALUE);
        check.refused("set(0, 0)", tree -> tree.set(0, 0), Check.BAD_VALUE);
        check.refused("set(0, 11)", tree -> tree.set(0, 11), Check.BAD_VALUE);
        check.refused("set(1, -1)", tree -> tree.set(1, -1), Check.BAD_VALUE);
        check.refused("set(1, 2)", tree -> tree.set(1, 2), Check.BAD_VALUE);
    }

    private static void sendReturnsTheStonesInAllBuffers() {
        check.sentence("3: Returns how many stones are in all buffers then");
        check.answerIs("", "send", tree -> tree.send(0, 5, 5, 1), 1);
        check.answerIs("=5:1", "send that becomes one", tree -> tree.send(1, 5, 5, 1), 1);
        check.answerIs("=5:1 e0", "send of the second", tree -> tree.send(1, 5, 5, 1), 2);
        check.answerIs("b1 +0-26:1", "send by which all go down to the leaves", tree -> tree.send(1, 0, 26, 2), 0);
        check.answerIs("b1 +3-20:5", "send by which a stone is cut", tree -> tree.send(0, 12, 12, 4), 5);
    }

    private static void sendIsAChange() {
        check.sentence("3: This is a change");
        check.answerIs("=5:1", "count(7)", tree -> tree.count(7), 1);
        check.answerIs("x5 +5:1", "count(7)", tree -> tree.count(7), 2);
        check.answerIs("=5:1 b1 =6:1 u", "stones", tree -> tree.count(0), 1);
        check.bufferIs("=5:1 b1 =6:1 u", 0, "=5-5:1");
        check.answerIs("=5:1 =6:1 u", "sent", tree -> tree.count(1), 1);
    }

    private static void kindOrNumberOutOfRange() {
        check.sentence("3: BAD_VALUE if kind or number is out of range");
        for (int kind : new int[] {-1, 3, 4, Integer.MIN_VALUE, Integer.MAX_VALUE}) {
            check.refused("send(" + kind + ", 5, 5, 0)", tree -> tree.send(kind, 5, 5, 0), Check.BAD_VALUE);
            check.refused("send(" + kind + ", 27, 5, 0)", tree -> tree.send(kind, 27, 5, 0), Check.BAD_VALUE);
        }
        for (int number : new int[] {-1, 1000, Integer.MIN_VALUE, Integer.MAX_VALUE}) {
            for (int kind = 0; kind <= 2; kind++) {
                int of = kind;
                String name = "send(" + kind + ", 5, 5, " + number + ")";
                check.refused(name, tree -> tree.send(of, 5, 5, number), Check.BAD_VALUE);
                check.refused(name + " of key 27", tree -> tree.send(of, 27, 27, number), Check.BAD_VALUE);
            }
        }
    }

    private static void numberOfAnErase() {
        check.sentence("3: number: 0 to 999; 0 for ERASE");
        check.answerIs("", "send(2, 5, 5, 0)", tree -> tree.send(2, 5, 5, 0), 1);
        check.refused("send(2, 5, 5, 1)", tree -> tree.send(2, 5, 5, 1), Check.BAD_VALUE);
        check.refused("send(2, 5, 5, 999)", tree -> tree.send(2, 5, 5, 999), Check.BAD_VALUE);
        check.refused("send(2, 5, 6, 1)", tree -> tree.send(2, 5, 6, 1), Check.BAD_VALUE);
        check.refused("send(2, 27, 27, 1)", tree -> tree.send(2, 27, 27, 1), Check.BAD_VALUE);
    }

    private static void noSuchKey() {
        check.sentence("3: NO_SUCH if there is no such key");
        for (int key : new int[] {-1, 27, 28, Integer.MIN_VALUE, Integer.MAX_VALUE}) {
            for (int kind = 0; kind <= 2; kind++) {
                int of = kind;
                check.refused("send(" + kind + ") of key " + key, tree -> tree.send(of, key, key, 0), Check.NO_SUCH);
            }
            check.refused("send(1, " + key + ", 26, 0)", tree -> tree.send(1, key, 26, 0), Check.NO_SUCH);
            check.refused("send(1, 0, " + key + ", 0)", tree -> tree.send(1, 0, key, 0), Check.NO_SUCH);
        }
        check.refused("send(1, -1, 27, 0)", tree -> tree.send(1, -1, 27, 0), Check.NO_SUCH);
        check.refused("send(1, min, max, 0)", tree -> tree.send(1, Integer.MIN_VALUE, Integer.MAX_VALUE, 0), Check.NO_SUCH);
    }

    private static void lastNotAsTold() {
        check.sentence("3: NO_SUCH if ... last is not as told (first for SET and ERASE)");
        for (int last : new int[] {4, 6, 0, 26, -1, 27}) {
            check.refused("send(0, 5, " + last + ", 1)", tree -> tree.send(0, 5, last, 1), Check.NO_SUCH);
            check.refused("send(2, 5, " + last + ", 0)", tree -> tree.send(2, 5, last, 0), Check.NO_SUCH);
        }
        check.refused("send(0, 0, 26, 1)", tree -> tree.send(0, 0, 26, 1), Check.NO_SUCH);
        check.bufferIs("=5-5:1 x6", 0, "=5-5:1 x6-6:0");
    }

    private static void lastBelowFirst() {
        check.sentence("3: NO_SUCH if ... last is ... below first");
        check.refused("send(1, 5, 4, 0)", tree -> tree.send(1, 5, 4, 0), Check.NO_SUCH);
        check.refused("send(1, 26, 0, 0)", tree -> tree.send(1, 26, 0, 0), Check.NO_SUCH);
        check.refused("send(1, 1, 0, 999)", tree -> tree.send(1, 1, 0, 999), Check.NO_SUCH);
        check.bufferIs("+5-5:1 +5-6:2", 0, "+5-5:1 +5-6:2");
    }

    private static void sendAtTheEdges() {
        check.sentence("3: kind: SET to ERASE; number: 0 to 999");
        check.bufferIs("=0:0 =26:999", 0, "=0-0:0 =26-26:999");
        check.bufferIs("+0-0:0 +26-26:999 +0-26:0", 0, "+0-0:0 +26-26:999 +0-26:0");
        check.bufferIs("x0 x26", 0, "x0-0:0 x26-26:0");
    }

    private static void emptyGivesAllToAll() {
        check.sentence("4: the children, or keys, from the first one to the last one, get all their stones");
        String calls = "=19:1 +5-20:5 =0:2 e0";
        check.bufferIs(calls, 0, "");
        check.bufferIs(calls, 1, "+5-8:5 =0-0:2");
        check.bufferIs(calls, 2, "+9-17:5");
        check.bufferIs(calls, 3, "=19-19:1 +18-20:5");
        check.answerIs(calls, "node 0 gave", tree -> tree.ofNode(0, 4), 5);
        String low = "=13:990 +12-13:20 e0 e2 e8";
        check.bufferIs(low, 8, "");
        check.answerIs(low, "leaf 13", tree -> tree.ofKey(13, 0), 10);
        check.answerIs(low, "leaf 12", tree -> tree.ofKey(12, 0), Check.NONE);
        check.answerIs(low, "applied", tree -> tree.count(3), 3);
        check.answerIs("=0:1 =1:2 =2:3 e0 e1 e4", "the keys of a low node", tree -> tree.sum(0, 2), 6);
    }

    private static void notThoseBelow() {
        check.sentence("4: (and not of those below it");
        String calls = "=0:1 =1:1 e0 =2:1 =3:1 e0";
        check.bufferIs(calls, 1, "=0-0:1 =1-1:1 =2-2:1 =3-3:1");
        check.answerIs(calls, "node 1 gave none", tree -> tree.ofNode(1, 4), 0);
        check.answerIs("=0:1 e0 b1 e0", "empty of an empty buffer", tree -> tree.ofNode(1, 0), 1);
        check.answerIs("=0:1 =1:1 e0 b1 e0", "a node that is too full already", tree -> tree.ofNode(1, 0), 2);
        check.answerIs("=0:1 e0 =9:1 e1", "not of those above it", tree -> tree.ofNode(0, 0), 1);
    }

    private static void unlessTheyBecomeTooFull() {
        check.sentence("4: unless they become too full)");
        String calls = "=0:1 =1:1 =3:1 e0 =4:1 =5:1 e0";
        check.bufferIs(calls, 1, "=0-0:1 =1-1:1");
        check.bufferIs(calls, 5, "=3-3:1 =4-4:1 =5-5:1");
        check.answerIs(calls, "stones", tree -> tree.count(0), 5);
        check.answerIs("d0 b1 =0:1 e0 =0:2 e0", "down to the leaf", tree -> tree.ofKey(0, 0), 2);
    }

    private static void emptyReturnsTheStonesInAllBuffers() {
        check.sentence("4: Returns how many stones are in all buffers then");
        check.answerIs("", "empty(0)", tree -> tree.empty(0), 0);
        check.answerIs("+5-20:5 =9:1", "empty(0)", tree -> tree.empty(0), 4);
        check.answerIs("+5-20:5 =9:1", "empty(12)", tree -> tree.empty(12), 2);
        check.answerIs("+0-2:5 =3:1 e0 e1", "empty(4)", tree -> tree.empty(4), 1);
        check.answerIs("=5:1 e0 +5:3", "empty(0) by which two become one", tree -> tree.empty(0), 1);
    }

    private static void emptyIsAChange() {
        check.sentence("4: This is a change");
        check.answerIs("e12", "count(7)", tree -> tree.count(7), 1);
        check.bufferIs("=5:1 e0 u", 0, "=5-5:1");
        check.answerIs("=5:1 e0 u", "went down", tree -> tree.count(2), 0);
    }

    private static void noSuchNode() {
        check.sentence("4: NO_SUCH if there is no such node");
        for (int node : new int[] {-1, 13, 14, Integer.MIN_VALUE, Integer.MAX_VALUE}) {
            check.refused("empty(" + node + ")", tree -> tree.empty(node), Check.NO_SUCH);
        }
        for (int node = 0; node <= 12; node++) {
            int of = node;
            check.answerIs("=0:1", "empty(" + node + ")", tree -> tree.empty(of), 1);
        }
    }

    private static void readReturnsTheValue() {
        check.sentence("5: Returns its value");
        check.answerIs("=0:1 =26:0", "read(0)", tree -> tree.read(0), 1);
        check.answerIs("=0:1 =26:0", "read(26)", tree -> tree.read(26), 0);
        check.answerIs("=5:999 +0-26:2", "read(5)", tree -> tree.read(5), 1);
        check.answerIs("=5:999 +0-26:2", "the same again", tree -> tree.read(5) + tree.read(5), 2);
    }

    private static void readIsAChangeOfWhatWasLookedAtAlone() {
        check.sentence("5: This is a change (of what was looked at alone)");
        check.answerIs("r5", "count(7)", tree -> tree.count(7), 1);
        check.answerIs("r5 r6", "count(4)", tree -> tree.count(4), 6);
        check.answerIs("r5 r6 u", "count(4)", tree -> tree.count(4), 3);
        String stones = "d0 b2 =5:1 +4-12:2 x6 ";
        String before = Check.state(Calls.tree(stones));
        check.due("all but that", Check.state(Calls.tree(stones + "r5 u")), before);
        check.due("all but that", Check.state(Calls.tree(stones + "r5")).replaceFirst("(counts( \\S+){4}) 3 ", "$1 0 "), before);
    }

    private static void noSuchKeyToRead() {
        check.sentence("5: NO_SUCH if there is no such key");
        for (int key : new int[] {-1, 27, 28, Integer.MIN_VALUE, Integer.MAX_VALUE}) {
            check.refused("read(" + key + ")", tree -> tree.read(key), Check.NO_SUCH);
        }
    }

    private static void noneIfItIsAbsent() {
        check.sentence("5: NONE if it is absent");
        check.answerIs("", "read(0)", tree -> tree.read(0), Check.NONE);
        check.answerIs("+26:3", "read(26)", tree -> tree.read(26), Check.NONE);
        check.answerIs("=5:1 e0 e1 e5 x5", "read(5)", tree -> tree.read(5), Check.NONE);
        check.answerIs("=5:1 e0 e1 e5 x5 =5:0", "read(5)", tree -> tree.read(5), 0);
        check.answerIs("r0", "it is a change, too", tree -> 10 * tree.count(7) + tree.count(4), 13);
    }
}
