/** Promises 16 to 19: put, wipe, fault, carryOut. */
public final class TextsTest {
    private static final Check check = new Check();

    public static void main(String[] args) {
        putting();
        putErrors();
        wiping();
        textsWithoutFault();
        faults();
        textsThatEndTooEarly();
        orders();
        badTexts();
        mostOrders();
        check.finish();
    }

    private static void putting() {
        StoneTree tree = new StoneTree();
        check.due("put(\"5\")", tree.put('5'), 1);
        check.due("put(\"=10;6+1;\")", tree.put(Check.packed("=10;6+1;")), 9);
        check.due("put(\"7x\")", tree.put(Check.packed("7x")), 11);
        check.due("fault", tree.fault(), -6);
        check.due("no change", tree.count(7), 0);
        check.due("carryOut", tree.carryOut(), 3);
        check.due("the stones", Check.buffer(tree, 0), "=5-5:10 +6-6:1 x7-7:0");
        check.due("put(\"!~\")", tree.put(Check.packed("!~")), 2);
        check.due("eight of 126", tree.put(Check.packed("~~~~~~~~")), 10);
    }

    private static void putErrors() {
        StoneTree tree = new StoneTree();
        tree.put(Check.packed("5=1"));
        long[] wrong = {0, 32, 127, 128, 255, 1, -1, Long.MIN_VALUE, Long.MAX_VALUE, 0x3500L, 0x350035L, 0x3520L, 0x2035L,
            0x35353535353500L, 0x3500000000000035L, 0x3500000000000000L, 0x0135353535353535L, 0x7f35353535353535L,
            0x8035353535353535L, 0xff35353535353535L, 1L << 63 | 0x35};
        for (long characters : wrong) {
            check.error(tree, "put(" + characters + ")", () -> tree.put(characters), -2);
        }
        for (int times = 0; times < 6; times++) {
            tree.put(Check.packed("xxxxxxxx"));
        }
        check.due("length", tree.count(6), 51);
        check.due("put(8)", tree.put(Check.packed("xxxxxxxx")), 59);
        check.error(tree, "61", () -> tree.put(Check.packed("xx")), -4);
        check.error(tree, "67", () -> tree.put(Check.packed("xxxxxxxx")), -4);
        check.error(tree, "a wrong code ahead of TOO_MANY", () -> tree.put(Check.packed("xx ")), -2);
        check.due("60", tree.put('x'), 60);
        check.error(tree, "61", () -> tree.put('x'), -4);
    }

    private static void wiping() {
        StoneTree tree = new StoneTree();
        check.due("wipe nothing", tree.wipe(), 0);
        tree.put(Check.packed("5=1"));
        tree.send(0, 1, 1, 1);
        check.due("wipe", tree.wipe(), 3);
        check.due("length", tree.count(6), 0);
        check.due("no change", tree.count(7), 1);
        check.due("fault", tree.fault(), 0);
    }

    private static void textsWithoutFault() {
        String[] texts = {"0=0", "26=999", "0x", "9+0", "10+10", "19x", "20-26+5", "3-3+1", "0-0+0", "0-26+999",
            "1=1;2x;3-4+5", "26x;0=0", "15-19+1", "9-10+100"};
        for (String text : texts) {
            check.due("fault of " + text, Check.faultOf(text), -6);
        }
    }

    private static void faults() {
        String[] texts = {"x", "=", "+1", "-1", ";", "1;", "00", "01=1", "27", "30=1", "100", "2627", "5==", "5=x", "5=;",
            "5=01", "5=00", "5=1000", "5=1x", "5=1+", "5=-1", "5+-1", "5+1=", "5-x", "5-+", "5--", "5-4+1", "15-1+3",
            "15-14+1", "15-27", "26-3", "5-6=1", "5-6x", "5-6-7+1", "5-06+1", "5xx", "5x5", "5X", "5x;;", "5x;x", "5x;5=;",
            "1=1;27x", "5=9999", "3-34", "A", "5/1", "5:1", "5=1:", "5=/", "5+1000", "5+999x", "1-2+00", "1-2+1001"};
        int[] due = {0, 0, 0, 0, 0, 1, 1, 1, 1, 1, 2, 2, 2, 2, 2,
            3, 3, 5, 3, 3, 2, 2, 3, 2, 2, 2, 3, 4,
            5, 4, 4, 3, 3, 3, 3, 2, 2, 1, 3, 3, 5,
            5, 5, 3, 0, 1, 1, 3, 2, 5, 5, 5, 7};
        check.due("as many", texts.length, due.length);
        for (int index = 0; index < texts.length; index++) {
            check.due("fault of " + texts[index], Check.faultOf(texts[index]), due[index]);
        }
    }

    private static void textsThatEndTooEarly() {
        for (String text : new String[] {"", "5", "26", "5=", "5+", "5-", "5-6", "5-6+", "5x;", "5=1;", "15-1", "5-4", "5x;2"}) {
            check.due("fault of " + text, Check.faultOf(text), text.length());
        }
    }

    private static void orders() {
        StoneTree tree = new StoneTree();
        Check.write(tree, "5=10;5+3;9x;10-12+999;26=0");
        check.due("carryOut", tree.carryOut(), 5);
        check.due("the stones", Check.state(tree).contains("[=5-5:13 x9-9:0 +10-12:999 =26-26:0]") ? 1 : 0, 1);
        check.due("the pad is empty", tree.count(6), 0);
        check.due("one change", tree.count(7), 1);
        check.due("sent", tree.count(1), 5);
        check.due("joined", tree.ofNode(0, 5), 1);
        Check.write(tree, "0x");
        check.due("one order", tree.carryOut(), 1);
        check.due("one order sinks", tree.ofNode(0, 3), 1);
        check.due("undo", tree.undo(), 1);
        check.due("sent", tree.count(1), 5);
        check.due("the pad stays empty", tree.count(6), 0);
        check.due("undo", tree.undo(), 0);
        check.due("all at once", Check.state(tree), Check.state(new StoneTree()));
    }

    private static void badTexts() {
        StoneTree tree = new StoneTree();
        check.error(tree, "carryOut of nothing", tree::carryOut, -3);
        for (String text : new String[] {"5", "5=1;", "5=1;27x", "5-4+1", "5=1;6=1;7=1;;"}) {
            Check.write(tree, text);
            check.error(tree, "carryOut of " + text, tree::carryOut, -3);
            check.due("the pad stays", tree.wipe(), text.length());
        }
    }

    private static void mostOrders() {
        StoneTree tree = new StoneTree();
        Check.write(tree, "0x;1x;2x;3x;4x;5x;6x;7x;8x;9x;0x;1x;2x;3x;4x;5x;6x;7x;8x;10x");
        check.due("length", tree.count(6), 60);
        check.due("fault", tree.fault(), -6);
        check.due("carryOut", tree.carryOut(), 20);
        check.due("sent", tree.count(1), 20);
        Check.write(tree, "0x;1x;2x;3x;4x;5x;6x;7x;8x;9x;0x;1x;2x;3x;4x;5x;6x;7x;8x;9x;");
        check.due("twenty, and a semicolon", tree.fault(), 60);
        check.due("carryOut", tree.carryOut(), -3);
    }
}
