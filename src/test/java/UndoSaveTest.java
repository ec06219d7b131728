/** Promises 20 to 22: undo, save, restore. */
public final class UndoSaveTest {
    private static final Check check = new Check();

    public static void main(String[] args) {
        allOfTheState();
        sixStates();
        whatIsNoChange();
        slots();
        slotsAreNotUndone();
        check.finish();
    }

    /** Each change is undone as a whole, one after the other. */
    private static void allOfTheState() {
        StoneTree tree = new StoneTree();
        String[] states = new String[7];
        states[0] = Check.state(tree);
        tree.set(0, 1);
        states[1] = Check.state(tree);
        tree.send(1, 3, 20, 5);
        states[2] = Check.state(tree);
        tree.send(0, 12, 12, 5);
        states[3] = Check.state(tree);
        tree.empty(2);
        states[4] = Check.state(tree);
        tree.read(12);
        states[5] = Check.state(tree);
        Check.write(tree, "12=1;12+3;5x");
        tree.carryOut();
        states[6] = Check.state(tree);
        tree.put(Check.packed("5=1"));
        for (int left = 5; left >= 0; left--) {
            check.due("undo()", tree.undo(), left);
            check.due("state " + left, Check.state(tree), states[left]);
            check.due("count(7)", tree.count(7), left);
        }
        check.due("the pad is not undone", tree.count(6), 3);
        check.error(tree, "undo()", tree::undo, -5);
    }

    private static void sixStates() {
        StoneTree tree = new StoneTree();
        for (int key = 0; key < 9; key++) {
            tree.set(0, key + 1);
            check.due("count(7)", tree.count(7), Math.min(key + 1, 6));
        }
        for (int left = 5; left >= 0; left--) {
            check.due("undo()", tree.undo(), left);
            check.due("BUFFER", tree.count(8), left + 3);
        }
        check.error(tree, "undo()", tree::undo, -5);
        tree.set(0, 10);
        check.due("undo of one more", tree.undo(), 0);
        check.due("BUFFER", tree.count(8), 3);
    }

    private static void whatIsNoChange() {
        StoneTree tree = new StoneTree();
        tree.put(Check.packed("5=1"));
        tree.wipe();
        tree.fault();
        tree.save(0);
        tree.sum(0, 26);
        tree.toEmptyAll();
        tree.worstKey(0);
        tree.wouldSink(0);
        check.due("no change", tree.count(7), 0);
        tree.set(1, 1);
        tree.empty(12);
        tree.restore(0);
        check.due("changes by which nothing is different", tree.count(7), 3);
    }

    private static void slots() {
        StoneTree tree = new StoneTree();
        for (int slot : new int[] {-1, 2, Integer.MAX_VALUE, Integer.MIN_VALUE}) {
            check.error(tree, "save(" + slot + ")", () -> tree.save(slot), -2);
            check.error(tree, "restore(" + slot + ")", () -> tree.restore(slot), -2);
        }
        tree.send(0, 5, 5, 1);
        tree.send(1, 0, 26, 1);
        tree.set(1, 0);
        tree.read(5);
        String first = Check.state(tree);
        check.due("save(0)", tree.save(0), 2);
        check.error(tree, "restore(1)", () -> tree.restore(1), -5);
        tree.empty(0);
        tree.set(0, 2);
        tree.read(6);
        String second = Check.state(tree);
        check.due("save(1)", tree.save(1), 4);
        check.due("restore(0)", tree.restore(0), 2);
        check.due("slot 0", Check.state(tree), first);
        check.due("restore(1)", tree.restore(1), 4);
        check.due("slot 1", Check.state(tree), second);
        tree.send(2, 26, 26, 0);
        check.due("a slot keeps what it has", tree.restore(0), 2);
        check.due("slot 0", Check.state(tree), first);
        check.due("restore is a change", tree.undo(), 5);
        check.due("undone", tree.count(8), 2);
        check.due("save over it", tree.save(0), 5);
        tree.empty(0);
        check.due("restore(0)", tree.restore(0), 5);
        check.due("the settings", tree.count(8), 2);
    }

    private static void slotsAreNotUndone() {
        StoneTree tree = new StoneTree();
        tree.put(Check.packed("5=1"));
        tree.send(0, 5, 5, 1);
        tree.save(1);
        tree.undo();
        check.due("empty", tree.count(0), 0);
        check.due("restore(1)", tree.restore(1), 1);
        check.due("the pad stays", tree.count(6), 3);
        check.due("the history stays", tree.count(7), 1);
        check.due("undo", tree.undo(), 0);
        check.due("empty", tree.count(0), 0);
    }
}
