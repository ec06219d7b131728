/** "Texts" of the document's terms, and promise 18: fault. */
public final class TextsTest {
    private static final Check check = new Check();

    public static void main(String[] args) {
        ordersWithoutFault();
        aKeyIs0To26();
        theLastKeyIs0To26();
        aNumberIs0To999();
        noLeadingZeros();
        theLastKeyIsNotBelowTheFirst();
        whatStandsBehindALastKeyThatIsBelow();
        aTextBeginsWithAKey();
        whatStandsBehindAKey();
        whatStandsBehindALastKey();
        whatStandsBehindASign();
        whatStandsBehindAnOrder();
        whatStandsBehindASemicolon();
        theFirstFaultOfSeveral();
        aTextThatEndsTooEarly();
        theEmptyText();
        noneIfThereIsNoFault();
        theLongestTexts();
        theFaultChangesNothing();
        check.finish();
    }

    private static void faultIs(int due, String... texts) {
        for (String text : texts) {
            check.due("the fault of " + text, Check.faultOf(text), due);
        }
    }

    private static void noFault(String... texts) {
        faultIs(Check.NONE, texts);
    }

    private static void sends(String text, String stones) {
        check.bufferIs("b10 t" + text + " c", 0, stones);
    }

    private static void ordersWithoutFault() {
        check.sentence("text = order { \";\" order }; order = key \"=\" number | key [ \"-\" key ] \"+\" number | key \"x\"");
        noFault("5=1", "5+1", "5-6+1", "5x", "5x;5x", "5=1;6+2;7-9+3;8x", "8x;7-9+3;6+2;5=1");
        sends("5=1;6+2;7-9+3;8x", "=5-5:1 +6-6:2 +7-9:3 x8-8:0");
        sends("8x;5-5+999;5=0", "x8-8:0 =5-5:0");
    }

    private static void aKeyIs0To26() {
        check.sentence("A key is a number from 0 to 26; (also of a digit by which a key would be above 26)");
        for (int key = 0; key <= 99; key++) {
            if (key <= 26) {
                noFault(key + "x", key + "=1", key + "+1");
                sends(key + "x", "x" + key + "-" + key + ":0");
            } else {
                faultIs(1, key + "x", key + "=1", key + "+1", String.valueOf(key));
            }
        }
        faultIs(2, "260x", "100x", "261=1", "200=1", "109x");
        faultIs(5, "5=1;27x", "5=1;30x", "5=1;99x");
    }

    private static void theLastKeyIs0To26() {
        check.sentence("A key is a number from 0 to 26 (the last key, too)");
        for (int key = 0; key <= 99; key++) {
            if (key <= 26) {
                noFault("0-" + key + "+1");
                sends("0-" + key + "+1", "+0-" + key + ":1");
            } else {
                faultIs(3, "0-" + key + "+1", "2-" + key, "0-" + key + "+");
            }
        }
        faultIs(4, "0-260+1", "0-100+1", "0-261");
    }

    private static void aNumberIs0To999() {
        check.sentence("a number is 0 to 999; (also of a digit by which ... a number [would be] above 999)");
        for (int number : new int[] {0, 1, 9, 10, 99, 100, 998, 999}) {
            noFault("5=" + number, "5+" + number, "5-6+" + number, "5=" + number + ";6x");
            sends("5=" + number, "=5-5:" + number);
            sends("5-6+" + number, "+5-6:" + number);
        }
        faultIs(5, "5=1000", "5+1000", "5=9990", "5=9999", "5=1001", "5+9999;6x", "5=10000");
        faultIs(7, "5-6+1000", "5-6+9990", "5-6+1000000");
        faultIs(8, "5x;5=1000");
    }

    private static void noLeadingZeros() {
        check.sentence("both have no leading zeros");
        faultIs(1, "00x", "01x", "05=1", "026x", "00", "01+1");
        faultIs(3, "0-00+1", "0-01+1", "0-05+1", "0-026+1", "5=00", "5=01", "5=0999", "5+00", "5+07", "5=000");
        faultIs(5, "5-6+00", "5-6+01", "5-6+0999", "5=1;01x");
        noFault("0x", "0=0", "0+0", "0-0+0", "10x", "20=10", "0-10+100");
    }

    private static void theLastKeyIsNotBelowTheFirst() {
        check.sentence("In a piece the last key is not below the first one");
        noFault("0-0+1", "5-5+1", "26-26+1", "5-6+1", "25-26+1", "9-10+1", "1-10+1", "3-26+1", "15-15+1", "15-16+1", "19-20+1");
        sends("9-10+1;26-26+2", "+9-10:1 +26-26:2");
        faultIs(3, "5-4+1", "1-0+1", "9-8+1", "6-0+1");
        faultIs(5, "26-25+1", "15-14+1", "10-10x", "20-19+1", "26-10+1");
        faultIs(7, "5=1;5-4+1");
    }

    private static void whatStandsBehindALastKeyThatIsBelow() {
        check.sentence("(also ... of what stands behind a last key that is below the first one)");
        faultIs(3, "5-4+1", "5-4+", "5-4+x", "5-4x", "5-4=", "5-4;", "5-4-", "5-40", "5-0+1", "5-00");
        faultIs(4, "15-1+1", "15-1x", "15-1;", "26-2+1", "26-3+1", "26-30", "10-9+1", "10-9", "10-1+1", "12-0+1");
        faultIs(5, "15-14+", "15-14+1", "26-25+1", "15-14", "26-20+5", "12-100");
        noFault("15-15+1", "10-10+1", "26-26+0", "12-20+1", "1-10+1");
    }

    private static void aTextBeginsWithAKey() {
        check.sentence("The fault is the index of the first character that cannot stand at its place (the first one)");
        faultIs(0, "x", "=", "+", "-", ";", "a", "A", "!", "~", "/", ":", "x5", "=5", ";5x", "-5+1");
    }

    private static void whatStandsBehindAKey() {
        check.sentence("order = key \"=\" number | key [ \"-\" key ] \"+\" number | key \"x\" (behind the key)");
        faultIs(1, "5;", "5/", "5:", "5X", "5y", "5,", "5*", "5<", "5>", "5w", "5;6x", "5!", "5~", "3;", "27");
        faultIs(2, "15;", "15y", "26;", "26:", "26/", "150", "260");
        faultIs(4, "5x;6;", "5x;6y");
    }

    private static void whatStandsBehindALastKey() {
        check.sentence("key [ \"-\" key ] \"+\" number (behind the last key)");
        faultIs(3, "5-6=1", "5-6x", "5-6-7+1", "5-6;", "5-6y", "5-60", "5-6*");
        faultIs(4, "5-16=1", "5-16x", "5-16;", "5-16-");
    }

    private static void whatStandsBehindASign() {
        check.sentence("The fault is the index of the first character that cannot stand at its place (behind = + -)");
        faultIs(2, "5==1", "5=x", "5=;", "5=-1", "5=+1", "5=a", "5++1", "5+x", "5+;", "5+-1", "5--6", "5-x", "5-+1", "5-;", "5-=",
            "5=/", "5=:", "5+/", "5+:", "5-/", "5-:");
        faultIs(4, "5-6++", "5-6+;", "5-6+x", "5-6+-1", "5-6+=");
    }

    private static void whatStandsBehindAnOrder() {
        check.sentence("text = order { \";\" order } (behind an order)");
        faultIs(2, "5xx", "5x5", "5x=", "5x,", "5x:", "5x-", "5x+1", "5x0");
        faultIs(3, "5=1x", "5=1=", "5=1+", "5=1-", "5=1:", "5=1/", "5=0x", "5+1x", "5+1+1", "5+1-2", "5+0=");
        faultIs(5, "5-6+1x", "5-6+1-7", "5=999x", "5=999:", "5-6+0+");
    }

    private static void whatStandsBehindASemicolon() {
        check.sentence("text = order { \";\" order } (behind a semicolon)");
        faultIs(3, "5x;;", "5x;x", "5x;=", "5x;+1", "5x;-", "5x;a", "5x;;5x");
        faultIs(4, "5=1;;", "5=1;x", "5+1;;");
    }

    private static void theFirstFaultOfSeveral() {
        check.sentence("the first character that cannot stand at its place when the text is read from left to right");
        faultIs(0, "x;x;x", ";;;");
        faultIs(1, "27=1000;x", "00=00");
        faultIs(3, "5=01000;;", "5-4+1000;27x");
    }

    private static void aTextThatEndsTooEarly() {
        check.sentence("if there is none and the text ends too early ..., it is the length of the text");
        faultIs(1, "5", "0", "2");
        faultIs(2, "26", "10", "5=", "5+", "5-", "0-");
        faultIs(3, "5-6", "5x;", "5-4", "26=", "26+", "26-");
        faultIs(4, "5-6+", "5=1;", "5x;2", "15-1", "15-2", "26-3", "5-16");
        faultIs(5, "26-25", "5x;26", "5-26+", "26-26", "5x;5-");
    }

    private static void theEmptyText() {
        check.sentence("(also if it is empty)");
        faultIs(0, "");
        check.answerIs("t5=1 w", "fault() of what was wiped", StoneTree::fault, 0);
        check.answerIs("t5=1 c", "fault() of what was carried out", StoneTree::fault, 0);
    }

    private static void noneIfThereIsNoFault() {
        check.sentence("18: Returns the fault of the pad, NONE if there is none");
        noFault("5x", "0=0", "26-26+999;0x");
        check.answerIs("t5 t=1", "fault() of a text in two pieces", StoneTree::fault, Check.NONE);
        check.answerIs("t5=1 w t5x", "fault() of a new text", StoneTree::fault, Check.NONE);
        check.answerIs("t5=1000 w t5x", "fault() behind a fault", tree -> tree.fault(), Check.NONE);
    }

    private static void theLongestTexts() {
        check.sentence("The pad is a text of at most 60 characters");
        String orders = "0x;".repeat(19);
        noFault(orders + "1x", orders + "10x", "5-26+999;".repeat(6) + "5=1;6x", "26=999;".repeat(8) + "5=1");
        faultIs(60, orders + "1x;", orders + "26=", orders + "26-", orders + "5x;", "5-26+999;".repeat(6) + "15-26+");
        faultIs(59, orders + "1xx", orders + "1x0", "26=999;".repeat(8) + "5=1x");
        faultIs(58, orders + "000", orders + "00", orders + "1;;", orders + "27x", "26=999;".repeat(8) + "5==");
        check.answerIs("t" + orders + "1x c", "sent", tree -> tree.count(1), 20);
        check.answerIs("t" + orders + "1x c t" + orders + "10x c", "sent", tree -> tree.count(1), 40);
    }

    private static void theFaultChangesNothing() {
        check.sentence("18: fault()");
        for (String text : new String[] {"5=1;6x", "5=1;;", ""}) {
            String calls = Check.BUSY + " w " + (text.isEmpty() ? "" : "t" + text);
            StoneTree tree = Calls.tree(calls);
            check.due("the second time", tree.fault(), tree.fault());
            check.due("all that shows", Check.everything(tree), Check.everything(Calls.tree(calls)));
        }
    }
}
