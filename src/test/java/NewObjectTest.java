import java.lang.reflect.Constructor;
import java.lang.reflect.Field;
import java.lang.reflect.Method;
import java.lang.reflect.Modifier;
import java.util.TreeSet;

/** The face, and promise 1. */
public final class NewObjectTest {
    private static final Check check = new Check();

    public static void main(String[] args) throws Exception {
        aNewObject();
        theConstants();
        theFace();
        check.finish();
    }

    private static void aNewObject() {
        check.sentence("1: Creates a tree in which all keys are absent");
        StoneTree tree = new StoneTree();
        int[] counts = {0, 0, 0, 0, 0, 0, 0, 0, 4, 1};
        for (int what = 0; what < counts.length; what++) {
            check.due("count(" + what + ")", tree.count(what), counts[what]);
        }
        for (int key = 0; key < Check.KEYS; key++) {
            check.due("ofKey(" + key + ", 0)", tree.ofKey(key, 0), -6);
            check.due("ofKey(" + key + ", 1)", tree.ofKey(key, 1), -6);
            check.due("ofKey(" + key + ", 2)", tree.ofKey(key, 2), 0);
            check.due("ofKey(" + key + ", 3)", tree.ofKey(key, 3), -6);
        }
        int[] firsts = {0, 0, 9, 18, 0, 3, 6, 9, 12, 15, 18, 21, 24};
        int[] lasts = {26, 8, 17, 26, 2, 5, 8, 11, 14, 17, 20, 23, 26};
        for (int node = 0; node < Check.NODES; node++) {
            int[] numbers = {0, firsts[node], lasts[node], 0, 0, 0};
            for (int what = 0; what < numbers.length; what++) {
                check.due("ofNode(" + node + ", " + what + ")", tree.ofNode(node, what), numbers[what]);
            }
            check.due("heaviest(" + node + ")", tree.heaviest(node), -6);
        }
        check.due("sum", tree.sum(0, 26), 0);
        check.due("worstKey(0)", tree.worstKey(0), 0);
        check.due("worstKey(1)", tree.worstKey(1), 0);
        check.due("toEmptyAll()", tree.toEmptyAll(), 0);
        check.due("fault()", tree.fault(), 0);
        check.due("undo()", tree.undo(), -5);
        check.due("restore(0)", tree.restore(0), -5);
        check.due("restore(1)", tree.restore(1), -5);
    }

    private static void theConstants() throws Exception {
        check.sentence("The constants; Settings; Kinds of stones");
        String[] names = {"NO_SUCH", "BAD_VALUE", "BAD_TEXT", "TOO_MANY", "NOT_POSSIBLE", "NONE",
            "BUFFER", "DOUBLES", "SET", "ADD", "ERASE"};
        int[] values = {-1, -2, -3, -4, -5, -6, 0, 1, 0, 1, 2};
        for (int index = 0; index < names.length; index++) {
            check.due(names[index], StoneTree.class.getField(names[index]).getInt(null), values[index]);
        }
        check.due("constants", StoneTree.class.getFields().length, names.length);
    }

    private static void theFace() {
        check.sentence("The public face");
        TreeSet<String> face = new TreeSet<>();
        for (Method method : StoneTree.class.getDeclaredMethods()) {
            if (!Modifier.isPrivate(method.getModifiers()) && !method.isSynthetic()) {
                face.add(method.toString().replace("StoneTree.", ""));
            }
        }
        for (Constructor<?> constructor : StoneTree.class.getDeclaredConstructors()) {
            face.add(constructor.toString());
        }
        for (Field field : StoneTree.class.getDeclaredFields()) {
            if (!Modifier.isPrivate(field.getModifiers()) && !Modifier.isPublic(field.getModifiers())) {
                face.add(field.toString());
            }
        }
        check.due("the face", face.toString(), "[public StoneTree(), public int carryOut(), public int count(int), "
            + "public int empty(int), public int fault(), public int heaviest(int), public int ofKey(int,int), "
            + "public int ofNode(int,int), public int put(long), public int read(int), public int restore(int), "
            + "public int same(int,int), public int save(int), public int send(int,int,int,int), "
            + "public int set(int,int), public int stone(int,int,int), public int sum(int,int), "
            + "public int toEmptyAll(), public int undo(), public int wipe(), public int worstKey(int), "
            + "public int wouldSink(int)]");
        check.due("the class's modifiers", Modifier.toString(StoneTree.class.getModifiers()), "public final");
    }
}
