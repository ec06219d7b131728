/** Promises 20 to 22: undo, save, restore. Objects are made anew for each look, as each look takes many calls. */
public final class UndoSaveTest {
    private static final Check check = new Check();
    private static final String[] CHANGES = {"b1", "+3-20:5", "=12:5", "e2", "r12", "t12=1;12+3;5x c", "d0", "l0", "=5:9", "b7", "e0"};

    public static void main(String[] args) {
        everythingIsAsBefore();
        notThePad();
        notTheSlots();
        atMost6States();
        theOldestIsDropped();
        eachChangeRecords();
        alsoIfNothingIsDifferent();
        whatIsNoChange();
        refusedCallsRecordNothing();
        undoReturnsHowManyMore();
        undoOfNone();
        changesBehindAnUndo();
        savesEverything();
        saveOverwrites();
        saveIsNoChange();
        noSuchSlot();
        restoresWhatWasSavedLast();
        theSlotKeepsIt();
        slotsAreTwo();
        notThePadNorTheHistory();
        restoreIsAChange();
        restoreOfNoSuchSlot();
        nothingWasSaved();
        check.finish();
    }

    private static String joined(int changes) {
        StringBuilder calls = new StringBuilder("=1:1 s0");
        for (int change = 0; change < changes; change++) {
            calls.append(' ').append(CHANGES[change]);
        }
        return calls.toString();
    }

    private static void stateIs(String calls, String same) {
        check.due("the state after " + calls, Check.state(Calls.tree(calls)), Check.state(Calls.tree(same)));
    }

    private static void everythingIsAsBefore() {
        check.sentence("20: Undoes the latest change: everything except the pad, the slots and the history is as it was before it");
        for (int changes = 1; changes <= CHANGES.length; changes++) {
            for (int undone = 1; undone <= Math.min(6, changes); undone++) {
                stateIs(joined(changes) + " u".repeat(undone), joined(changes - undone));
            }
        }
    }

    private static void notThePad() {
        check.sentence("20: everything except the pad");
        check.answerIs("=5:1 t6=1 u", "count(6)", tree -> tree.count(6), 3);
        check.answerIs("t6=1 =5:1 w u", "count(6)", tree -> tree.count(6), 0);
        check.answerIs("t6=1 c u", "count(6)", tree -> tree.count(6), 0);
        check.answerIs("=5:1 t6=1 u", "carryOut()", StoneTree::carryOut, 1);
        check.bufferIs("=5:1 t6=1 u c", 0, "=6-6:1");
    }

    private static void notTheSlots() {
        check.sentence("20: everything except ... the slots");
        check.bufferIs("=5:1 s0 u l0", 0, "=5-5:1");
        check.bufferIs("=5:1 s0 =6:1 s1 u u l1", 0, "=5-5:1 =6-6:1");
        check.bufferIs("=5:1 s0 =6:1 s0 u u l0", 0, "=5-5:1 =6-6:1");
    }

    private static void atMost6States() {
        check.sentence("20: A history of at most 6 states is kept");
        for (int changes = 1; changes <= 9; changes++) {
            String calls = Calls.times(changes, "r5");
            int kept = Math.min(6, changes);
            check.answerIs(calls, "count(7)", tree -> tree.count(7), kept);
            check.answerIs(calls + "u ".repeat(kept), "undo() once more", StoneTree::undo, Check.NOT_POSSIBLE);
        }
    }

    private static void theOldestIsDropped() {
        check.sentence("20: when one more is recorded, the oldest one is dropped");
        String six = "=0:1 =1:1 =2:1 =3:1 b5 b6";
        check.answerIs(six + " u u u u u u", "stones", tree -> tree.count(0), 0);
        check.bufferIs(six + " b7 u u u u u u", 0, "=0-0:1");
        check.bufferIs(six + " b7 b8 u u u u u u", 0, "=0-0:1 =1-1:1");
        check.answerIs(six + " b7 b8 b9 b10 u u u u u u", "stones", tree -> tree.count(0), 4);
    }

    private static void eachChangeRecords() {
        check.sentence("20: each method that is a change, and returns no error, records the state before it");
        for (String change : new String[] {"b1", "d0", "=5:1", "+5-6:1", "x5", "e0", "e12", "r0", "t5=1 c", "l0"}) {
            check.answerIs("s0 " + change, "count(7)", tree -> tree.count(7), 1);
            stateIs("s0 " + change + " u", "");
            stateIs("=8:1 s0 =7:2 " + change + " u", "=8:1 =7:2");
        }
    }

    private static void alsoIfNothingIsDifferent() {
        check.sentence("20: (also if nothing is different then)");
        check.answerIs("b4 d1 e0 e12 s0 l0", "count(7)", tree -> tree.count(7), 5);
        check.answerIs("b5 b4 b4", "undo() of the second", tree -> tree.undo() == 2 ? tree.count(8) : -1, 4);
    }

    private static void whatIsNoChange() {
        check.sentence("20: each method that is a change ... records (the others do not)");
        StoneTree tree = Calls.tree("=5:1 t5=1 w s0 s1");
        tree.fault();
        tree.sum(0, 26);
        tree.heaviest(0);
        tree.wouldSink(0);
        tree.worstKey(0);
        tree.toEmptyAll();
        tree.same(0, 1);
        tree.stone(0, 0, 0);
        tree.ofNode(0, 0);
        tree.ofKey(0, 1);
        check.due("count(7)", tree.count(7), 1);
        check.due("undo()", tree.undo(), 0);
        check.due("undo()", tree.undo(), Check.NOT_POSSIBLE);
    }

    private static void refusedCallsRecordNothing() {
        check.sentence("20: each method that is a change, and returns no error");
        StoneTree tree = Calls.tree("=5:1 t5=1;");
        tree.set(0, 11);
        tree.send(0, 27, 27, 0);
        tree.empty(13);
        tree.read(27);
        tree.carryOut();
        tree.restore(0);
        check.due("count(7)", tree.count(7), 1);
    }

    private static void undoReturnsHowManyMore() {
        check.sentence("20: Returns how many changes can be undone then");
        for (int changes = 1; changes <= 8; changes++) {
            StoneTree tree = Calls.tree(Calls.times(changes, "r5"));
            for (int left = Math.min(6, changes) - 1; left >= 0; left--) {
                check.due("undo()", tree.undo(), left);
                check.due("count(7)", tree.count(7), left);
            }
        }
    }

    private static void undoOfNone() {
        check.sentence("20: NOT_POSSIBLE if there is none");
        check.refused("", "undo()", StoneTree::undo, Check.NOT_POSSIBLE);
        check.refused("=5:1 s0 t5=1 u", "undo() again", StoneTree::undo, Check.NOT_POSSIBLE);
        check.refused("s0 t5=1 w s1", "undo() of what is no change", StoneTree::undo, Check.NOT_POSSIBLE);
        check.refused("b5 b6 b7 b8 b9 b10 =5:1 s1 u u u u u u", "undo() of the seventh", StoneTree::undo, Check.NOT_POSSIBLE);
    }

    private static void changesBehindAnUndo() {
        check.sentence("20: Undoes the latest change (an undo is none itself)");
        check.answerIs("=5:1 =6:1 u =7:1", "count(7)", tree -> tree.count(7), 2);
        check.bufferIs("=5:1 =6:1 u =7:1 u", 0, "=5-5:1");
        check.bufferIs("=5:1 =6:1 u =7:1 u u", 0, "");
        check.bufferIs("b5 b6 b7 b8 b9 =5:1 =6:1 u u =7:1 =8:1 u", 0, "=7-7:1");
    }

    private static void savesEverything() {
        check.sentence("21: Saves everything except the pad, the history and the slots in a slot; Returns the stones in all buffers");
        for (int changes = 0; changes <= CHANGES.length; changes++) {
            for (int slot = 0; slot < 2; slot++) {
                int of = slot;
                String calls = joined(changes);
                check.answerIs(calls, "save(" + slot + ")", tree -> tree.save(of), Calls.tree(calls).count(0));
                stateIs(calls + " s" + slot + " b3 d1 +0-26:4 e0 r0 l" + slot, calls);
            }
        }
        check.answerIs("", "save(0) of no stones", tree -> tree.save(0), 0);
    }

    private static void saveOverwrites() {
        check.sentence("21: and overwrites what was saved there");
        check.bufferIs("=5:1 s0 =6:1 s0 =7:1 l0", 0, "=5-5:1 =6-6:1");
        check.bufferIs("=5:1 s1 e0 s1 =7:1 l1", 0, "");
    }

    private static void saveIsNoChange() {
        check.sentence("21: save(int) (it is not called a change)");
        check.answerIs("=5:1 s0", "count(7)", tree -> tree.count(7), 1);
        stateIs("=5:1 e0 =6:1 s0", "=5:1 e0 =6:1");
        check.bufferIs("=5:1 =6:1 s0 u", 0, "=5-5:1");
    }

    private static void noSuchSlot() {
        check.sentence("21: BAD_VALUE if there is no such slot");
        for (int slot : new int[] {-1, 2, 3, Integer.MIN_VALUE, Integer.MAX_VALUE}) {
            check.refused("save(" + slot + ")", tree -> tree.save(slot), Check.BAD_VALUE);
        }
    }

    private static void restoresWhatWasSavedLast() {
        check.sentence("22: Restores what was saved last in a slot; Returns the stones in all buffers then");
        check.answerIs("=5:1 =6:1 s0 e0 =7:1", "restore(0)", tree -> tree.restore(0), 2);
        check.answerIs("s1 =7:1", "restore(1)", tree -> tree.restore(1), 0);
        stateIs("b2 d0 =5:1 =5:2 =5:3 r5 s1 b3 d1 e0 e1 x5 r5 l1", "b2 d0 =5:1 =5:2 =5:3 r5");
    }

    private static void theSlotKeepsIt() {
        check.sentence("22: which keeps it");
        stateIs("=5:1 s0 =6:1 l0 =7:1 e0 b2 l0", "=5:1");
        stateIs("=5:1 s0 l0 e0 l0 l0", "=5:1");
        stateIs("=5:1 s0 =6:1 l0 u l0", "=5:1");
    }

    private static void slotsAreTwo() {
        check.sentence("22: slot: 0 or 1");
        check.bufferIs("=5:1 s0 =6:1 s1 =7:1 l0", 0, "=5-5:1");
        check.bufferIs("=5:1 s0 =6:1 s1 =7:1 l1", 0, "=5-5:1 =6-6:1");
        check.bufferIs("=5:1 s0 =6:1 s1 =7:1 l0 s1 l1", 0, "=5-5:1");
    }

    private static void notThePadNorTheHistory() {
        check.sentence("21: everything except the pad, the history and the slots");
        check.answerIs("=5:1 t5=1 s0 w l0", "count(6)", tree -> tree.count(6), 0);
        check.answerIs("=5:1 s0 t5=1 l0", "count(6)", tree -> tree.count(6), 3);
        check.answerIs("=5:1 s0 =6:1 =7:1 l0", "count(7)", tree -> tree.count(7), 4);
        check.bufferIs("=5:1 s0 =6:1 =7:1 l0 u u", 0, "=5-5:1 =6-6:1");
        check.bufferIs("=5:1 s0 =6:1 s1 l0 l1", 0, "=5-5:1 =6-6:1");
    }

    private static void restoreIsAChange() {
        check.sentence("22: This is a change");
        check.answerIs("s0 l0", "count(7)", tree -> tree.count(7), 1);
        check.bufferIs("s0 =5:1 l0 u", 0, "=5-5:1");
        stateIs("s0 =5:1 b2 e0 r5 l0 u", "=5:1 b2 e0 r5");
    }

    private static void restoreOfNoSuchSlot() {
        check.sentence("22: BAD_VALUE if there is no such slot");
        for (int slot : new int[] {-1, 2, 3, Integer.MIN_VALUE, Integer.MAX_VALUE}) {
            check.refused("restore(" + slot + ")", tree -> tree.restore(slot), Check.BAD_VALUE);
            check.refused("=5:1", "restore(" + slot + ") where nothing was saved", tree -> tree.restore(slot), Check.BAD_VALUE);
        }
    }

    private static void nothingWasSaved() {
        check.sentence("22: NOT_POSSIBLE if nothing was saved in it");
        check.refused("", "restore(0)", tree -> tree.restore(0), Check.NOT_POSSIBLE);
        check.refused("", "restore(1)", tree -> tree.restore(1), Check.NOT_POSSIBLE);
        check.refused("=5:1 s0", "restore(1)", tree -> tree.restore(1), Check.NOT_POSSIBLE);
        check.refused("=5:1 s1", "restore(0)", tree -> tree.restore(0), Check.NOT_POSSIBLE);
        check.answerIs("s0", "what was saved had no stones", tree -> tree.restore(0), 0);
    }
}
