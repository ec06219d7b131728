/** Promises 16, 17 and 19: put, wipe, carryOut. */
public final class PadTest {
    private static final Check check = new Check();
    /** 0, 3 and 7 bytes above the one that is looked at. */
    private static final int[] SHIFTS = {0, 24, 56};

    public static void main(String[] args) {
        theLowest8BitsAreTheLast();
        oneTo8Characters();
        noCharacter();
        codesAre33To126();
        above8BitsThatAre0();
        atMost60();
        putIsNoChange();
        wipeReturnsTheLength();
        wipeIsNoChange();
        ordersAreSends();
        oneAfterTheOther();
        itEmptiesThePad();
        howManyOrders();
        oneChangeWithAllOfThem();
        badTextIfThereIsAFault();
        theFaultyPadStays();
        check.finish();
    }

    private static void theLowest8BitsAreTheLast() {
        check.sentence("16: its lowest 8 bits are the last character, the next 8 bits the one before, and so on");
        StoneTree tree = new StoneTree();
        check.due("put(\"5=12\")", tree.put(0x353d3132L), 4);
        check.due("put(\"3;26-26x\")", tree.put(0x333b32362d323678L), 12);
        check.due("fault()", tree.fault(), 11);
        check.due("wipe()", tree.wipe(), 12);
        check.due("put(\"5=12\")", tree.put(0x353d3132L), 4);
        check.due("put(\"3\")", tree.put(0x33), 5);
        check.due("carryOut()", tree.carryOut(), 1);
        check.due("the order", Check.buffer(tree, 0), "=5-5:123");
    }

    private static void oneTo8Characters() {
        check.sentence("16: 1 to 8 characters; Returns the length of the pad then");
        String text = "5=1;6=22";
        for (int length = 1; length <= 8; length++) {
            long characters = Calls.packed(text.substring(0, length));
            check.answerIs("", "put of " + length, tree -> tree.put(characters), length);
            check.answerIs("t5=1;", "put of " + length, tree -> tree.put(characters), length + 4);
        }
    }

    private static void noCharacter() {
        check.sentence("16: BAD_VALUE if there is no character");
        check.refused("put(0)", tree -> tree.put(0), Check.BAD_VALUE);
        check.refused("", "put(0)", tree -> tree.put(0), Check.BAD_VALUE);
    }

    private static void codesAre33To126() {
        check.sentence("16: BAD_VALUE if ... a code is not 33 to 126");
        for (int code = 1; code < 256; code++) {
            int due = code < 33 || code > 126 ? Check.BAD_VALUE : 0;
            for (int shift : SHIFTS) {
                long others = Calls.packed("xxxxxxxx".substring(0, shift / 8));
                long alone = (long) code << shift | others;
                check.answerIs("", "put of the code " + code, tree -> tree.put(alone), due == 0 ? shift / 8 + 1 : due);
            }
            long last = 0x78780000L | code;
            check.answerIs("", "put of the code " + code, tree -> tree.put(last), Check.BAD_VALUE);
            long between = 0x78007878L | (long) code << 16;
            check.answerIs("", "put of the code " + code, tree -> tree.put(between), due == 0 ? 4 : due);
        }
        for (long characters : new long[] {32, 127, 128, 255, 0x3520, 0x2035, 0x7f35, 0x357f, 0x351f35, -1, Long.MIN_VALUE,
            Long.MAX_VALUE, 0x8035353535353535L, 0x2035353535353535L, 0x7f35353535353535L, 0xff35353535353535L}) {
            check.refused("put(" + characters + ")", tree -> tree.put(characters), Check.BAD_VALUE);
        }
        check.answerIs("", "put of 8 times 126", tree -> tree.put(0x7e7e7e7e7e7e7e7eL), 8);
        check.answerIs("", "put of 8 times 33", tree -> tree.put(0x2121212121212121L), 8);
    }

    private static void above8BitsThatAre0() {
        check.sentence("16: BAD_VALUE if ... a bit above 8 bits that are 0 is not 0");
        for (int zero = 0; zero < 7; zero++) {
            long below = zero == 0 ? 0 : Calls.packed("xxxxxxx".substring(0, zero));
            for (int bit = 8 * zero + 8; bit < 64; bit++) {
                long characters = below | 1L << bit;
                check.answerIs("", "put(" + characters + ")", tree -> tree.put(characters), Check.BAD_VALUE);
            }
            long whole = below | 0x78L << 8 * zero + 8;
            check.refused("put(" + whole + ")", tree -> tree.put(whole), Check.BAD_VALUE);
        }
        check.refused("put(\"5\", 0)", tree -> tree.put(0x3500), Check.BAD_VALUE);
        check.refused("put(\"5\", six times 0, \"5\")", tree -> tree.put(0x3500000000000035L), Check.BAD_VALUE);
    }

    private static void atMost60() {
        check.sentence("16: TOO_MANY if the pad would be longer than 60");
        for (int more = 1; more <= 8; more++) {
            long characters = Calls.packed("xxxxxxxx".substring(0, more));
            check.answerIs("t" + "0".repeat(60 - more), "put of " + more, tree -> tree.put(characters), 60);
            check.refused("=5:1 t" + "0".repeat(61 - more), "put of " + more, tree -> tree.put(characters), Check.TOO_MANY);
            check.refused("=5:1 t" + "0x;".repeat(19) + "10x", "put of " + more, tree -> tree.put(characters), Check.TOO_MANY);
        }
        check.refused("=5:1 t" + "0x;".repeat(19) + "0x", "put of 2", tree -> tree.put(0x3b3b), Check.TOO_MANY);
        check.answerIs("t" + "0x;".repeat(20) + " w", "put behind wipe()", tree -> tree.put('x'), 1);
        check.answerIs("t" + "0x;".repeat(19) + "0x c", "put behind carryOut()", tree -> tree.put('x'), 1);
        check.refused("=5:1 t" + "0x;".repeat(20), "a wrong code", tree -> tree.put(0x3520), Check.BAD_VALUE);
    }

    private static void putIsNoChange() {
        check.sentence("16: put(long) (it is not called a change)");
        check.answerIs("=5:1 t6=1", "count(7)", tree -> tree.count(7), 1);
        check.answerIs("=5:1 t6=1 u", "the pad behind undo()", tree -> tree.count(6), 3);
    }

    private static void wipeReturnsTheLength() {
        check.sentence("17: Empties the pad, and returns the length that it had");
        check.answerIs("", "wipe() of nothing", StoneTree::wipe, 0);
        check.answerIs("t5=1", "wipe()", StoneTree::wipe, 3);
        check.answerIs("t5=1 w", "wipe() again", StoneTree::wipe, 0);
        check.answerIs("t" + "x".repeat(60), "wipe() of the longest", StoneTree::wipe, 60);
        check.answerIs("t5=1 w", "count(6)", tree -> tree.count(6), 0);
        check.answerIs("t5=1 w t6", "what is put behind it", tree -> tree.count(6), 1);
    }

    private static void wipeIsNoChange() {
        check.sentence("17: wipe() (it is not called a change)");
        check.answerIs("=5:1 t6=1 w", "count(7)", tree -> tree.count(7), 1);
        check.answerIs("=5:1 t6=1 w u", "the pad behind undo()", tree -> tree.count(6), 0);
        check.due("all else", Check.everything(Calls.tree("=5:1 e0 t6=1 w")), Check.everything(Calls.tree("=5:1 e0")));
    }

    private static void ordersAreSends() {
        check.sentence("They send a SET, an ADD (of one key, or from the first key to the last one), and an ERASE");
        String[][] pairs = {{"5=10", "=5:10"}, {"5+10", "+5:10"}, {"5-5+10", "+5:10"}, {"3-20+7", "+3-20:7"}, {"26x", "x26"},
            {"0=0;0+999;0-26+1;0x", "=0:0 +0:999 +0-26:1 x0"}};
        for (String[] pair : pairs) {
            for (String ahead : new String[] {"", "b1 ", "d0 b2 +0-26:1 =5:2 "}) {
                check.due("all behind " + pair[0], Check.state(Calls.tree(ahead + 't' + pair[0] + " c")),
                    Check.state(Calls.tree(ahead + pair[1])));
            }
        }
    }

    private static void oneAfterTheOther() {
        check.sentence("19: Carries the orders of the pad out, one after the other");
        check.bufferIs("t5=10;5+3;9x;10-12+999;26=0 c", 0, "=5-5:13 x9-9:0 +10-12:999 =26-26:0");
        check.bufferIs("d0 t5x;5=1;5x;5+2 c", 0, "x5-5:0 =5-5:1 x5-5:0 +5-5:2");
        check.answerIs("b1 t5=1;6x;5+2 c", "it sinks by each", tree -> tree.ofKey(5, 1), 3);
        check.due("it sinks by each", Check.state(Calls.tree("b1 t5=1;6x;5+2 c")), Check.state(Calls.tree("b1 =5:1 x6 +5:2")));
    }

    private static void itEmptiesThePad() {
        check.sentence("19: and empties the pad");
        check.answerIs("t5=1 c", "count(6)", tree -> tree.count(6), 0);
        check.answerIs("t5=1 c", "wipe()", StoneTree::wipe, 0);
        check.answerIs("t5=1 c", "carryOut() again", StoneTree::carryOut, Check.BAD_TEXT);
        check.answerIs("t5=1 c t6=1", "carryOut() of another", StoneTree::carryOut, 1);
        check.answerIs("t5=1 c u", "it is not undone", tree -> tree.count(6), 0);
    }

    private static void howManyOrders() {
        check.sentence("19: Returns how many orders were carried out");
        for (int orders = 1; orders <= 20; orders++) {
            check.answerIs("t" + "0x;".repeat(orders - 1) + "0x", orders + " orders", StoneTree::carryOut, orders);
        }
        check.answerIs("t0-26+999", "one order of many keys", StoneTree::carryOut, 1);
    }

    private static void oneChangeWithAllOfThem() {
        check.sentence("19: This is a change (one, with all of them)");
        check.answerIs("t5=1;6=2;7x c", "count(7)", tree -> tree.count(7), 1);
        check.answerIs("=5:1 t5=1;6=2;7x c", "count(7)", tree -> tree.count(7), 2);
        check.due("all of them are undone", Check.state(Calls.tree("b2 =5:1 t5=2;6=2;7x c u")), Check.state(Calls.tree("b2 =5:1")));
        check.answerIs("b2 =5:1 t5=2;6=2;7x c u", "count(7)", tree -> tree.count(7), 2);
    }

    private static void badTextIfThereIsAFault() {
        check.sentence("19: BAD_TEXT if the pad has a fault");
        check.refused("=5:1", "carryOut() of nothing", StoneTree::carryOut, Check.BAD_TEXT);
        for (String text : new String[] {"5", "5=", "5=1;", "5=1;27x", "5-4+1", "15-1", "5=1000", "05=1", "5=1;6=1;7=1;;", "5x;x",
            "0x;".repeat(20)}) {
            check.refused("=5:1 e0 t" + text, "carryOut()", StoneTree::carryOut, Check.BAD_TEXT);
        }
    }

    private static void theFaultyPadStays() {
        check.sentence("19: (then it stays)");
        check.answerIs("t5=1;", "wipe()", tree -> tree.carryOut() == Check.BAD_TEXT ? tree.wipe() : -1, 4);
        StoneTree tree = Calls.tree("t5=1;");
        check.due("carryOut()", tree.carryOut(), Check.BAD_TEXT);
        check.due("count(7)", tree.count(7), 0);
        check.due("sent", tree.count(1), 0);
        check.due("put(\"6x\")", tree.put(0x3678), 6);
        check.due("carryOut() of what stayed and more", tree.carryOut(), 2);
        check.due("the orders", Check.buffer(tree, 0), "=5-5:1 x6-6:0");
    }
}
