import java.util.ArrayDeque;
import java.util.ArrayList;
import java.util.List;
import java.util.regex.Matcher;
import java.util.regex.Pattern;

/**
 * The document once more, written as plainly as the Java library allows: nodes, leaves and stones are objects, states
 * are copied whole, and the fault is found by asking of each beginning of the text whether it can go on to a text.
 */
final class Model {
    private static final int NONE = -6;

    private static final class Stone {
        final int kind, first, last, number;

        Stone(int kind, int first, int last, int number) {
            this.kind = kind;
            this.first = first;
            this.last = last;
            this.number = number;
        }

        boolean has(int key) {
            return first <= key && key <= last;
        }

        boolean single() {
            return first == last;
        }

        Integer applyTo(Integer value) {
            if (kind == 0) {
                return number;
            }
            return kind == 2 || value == null ? null : Integer.valueOf((value + number) % 1000);
        }
    }

    private static final class Node {
        int first, last, rounds, sunk, joined;
        Integer value;
        List<Stone> stones = new ArrayList<>();
        List<Node> below = new ArrayList<>();

        boolean has(int key) {
            return first <= key && key <= last;
        }

        boolean isLeaf() {
            return below.isEmpty();
        }

        Node copy() {
            Node copy = new Node();
            copy.first = first;
            copy.last = last;
            copy.rounds = rounds;
            copy.sunk = sunk;
            copy.joined = joined;
            copy.value = value;
            copy.stones.addAll(stones);
            for (Node child : below) {
                copy.below.add(child.copy());
            }
            return copy;
        }
    }

    private static final class State {
        int buffer = 4, doubles = 1, sent, applied, looked;
        Node root = make(0, 26);

        static Node make(int first, int last) {
            Node node = new Node();
            node.first = first;
            node.last = last;
            int part = (last - first + 1) / 3;
            for (int child = 0; child < 3 && part > 0; child++) {
                node.below.add(make(first + child * part, first + child * part + part - 1));
            }
            return node;
        }

        State copy() {
            State copy = new State();
            copy.buffer = buffer;
            copy.doubles = doubles;
            copy.sent = sent;
            copy.applied = applied;
            copy.looked = looked;
            copy.root = root.copy();
            return copy;
        }

        /** Level by level: 0, then 1 to 3, then 4 to 12. */
        List<Node> nodes() {
            List<Node> nodes = new ArrayList<>(List.of(root));
            for (int next = 0; nodes.size() < 13; next++) {
                nodes.addAll(nodes.get(next).below);
            }
            return nodes;
        }

        List<Node> path(int key) {
            List<Node> path = new ArrayList<>();
            for (Node node = root; node != null;) {
                path.add(0, node);
                Node next = null;
                for (Node child : node.below) {
                    next = child.has(key) ? child : next;
                }
                node = next;
            }
            return path;
        }

        Integer asRead(int key) {
            List<Node> path = path(key);
            Integer value = path.get(0).value;
            for (Node node : path) {
                for (Stone stone : node.stones) {
                    value = stone.has(key) ? stone.applyTo(value) : value;
                }
            }
            return value;
        }

        void drop(Stone stone) {
            sent++;
            come(root, stone);
        }

        void come(Node node, Stone stone) {
            if (node.isLeaf()) {
                applied++;
                node.value = stone.applyTo(node.value);
                return;
            }
            if (!joins(node, stone)) {
                node.stones.add(stone);
            }
            while (node.stones.size() > buffer) {
                sink(node, heaviest(node));
            }
        }

        /** Whether the stone is gone by this. */
        boolean joins(Node node, Stone stone) {
            Stone earlier = null;
            for (Stone other : node.stones) {
                earlier = other.has(stone.first) ? other : earlier;
            }
            if (doubles == 0 || !stone.single() || earlier == null || !earlier.single()) {
                return false;
            }
            node.joined++;
            int place = node.stones.lastIndexOf(earlier);
            if (stone.kind != 1) {
                node.stones.remove(place);
                return false;
            }
            if (earlier.kind != 2) {
                int number = (earlier.number + stone.number) % 1000;
                node.stones.set(place, new Stone(earlier.kind, earlier.first, earlier.last, number));
            }
            return true;
        }

        Node heaviest(Node node) {
            Node heaviest = null;
            long most = 0;
            for (Node child : node.below) {
                long weight = node.stones.stream().filter(s -> s.first <= child.last && s.last >= child.first).count();
                if (weight > most) {
                    most = weight;
                    heaviest = child;
                }
            }
            return heaviest;
        }

        void sink(Node node, Node child) {
            List<Stone> left = new ArrayList<>();
            List<Stone> down = new ArrayList<>();
            for (Stone stone : node.stones) {
                cut(stone, stone.first, Math.min(stone.last, child.first - 1), left);
                cut(stone, Math.max(stone.first, child.first), Math.min(stone.last, child.last), down);
                cut(stone, Math.max(stone.first, child.last + 1), stone.last, left);
            }
            node.stones = left;
            node.sunk += down.size();
            node.rounds += down.isEmpty() ? 0 : 1;
            for (Stone stone : down) {
                come(child, stone);
            }
        }

        static void cut(Stone stone, int first, int last, List<Stone> to) {
            if (first <= last) {
                to.add(new Stone(stone.kind, first, last, stone.number));
            }
        }

        void empty(Node node) {
            for (Node child : node.below) {
                sink(node, child);
            }
        }

        int stones() {
            return nodes().stream().mapToInt(node -> node.stones.size()).sum();
        }

        int sunk() {
            return nodes().stream().mapToInt(node -> node.sunk).sum();
        }
    }

    private State state = new State();
    private String pad = "";
    private final ArrayDeque<State> history = new ArrayDeque<>();
    private final State[] slots = new State[2];

    private void record() {
        history.addLast(state.copy());
        if (history.size() > 6) {
            history.removeFirst();
        }
    }

    private static boolean in(int number, int least, int most) {
        return least <= number && number <= most;
    }

    private static int orNone(Integer value) {
        return value == null ? NONE : value;
    }

    int set(int setting, int value) {
        if (!in(setting, 0, 1) || !(setting == 0 ? in(value, 1, 10) : in(value, 0, 1))) {
            return -2;
        }
        record();
        int previous = setting == 0 ? state.buffer : state.doubles;
        if (setting == 0) {
            state.buffer = value;
        } else {
            state.doubles = value;
        }
        return previous;
    }

    int send(int kind, int first, int last, int number) {
        if (!in(kind, 0, 2) || !in(number, 0, 999) || kind == 2 && number != 0) {
            return -2;
        }
        if (!in(first, 0, 26) || !in(last, 0, 26) || kind != 1 && last != first || last < first) {
            return -1;
        }
        record();
        state.drop(new Stone(kind, first, last, number));
        return state.stones();
    }

    int empty(int node) {
        if (!in(node, 0, 12)) {
            return -1;
        }
        record();
        state.empty(state.nodes().get(node));
        return state.stones();
    }

    int read(int key) {
        if (!in(key, 0, 26)) {
            return -1;
        }
        record();
        state.looked += 3;
        return orNone(state.asRead(key));
    }

    int stone(int node, int place, int what) {
        if (!in(node, 0, 12) || !in(place, 0, state.nodes().get(node).stones.size() - 1)) {
            return -1;
        }
        Stone stone = state.nodes().get(node).stones.get(place);
        return in(what, 0, 3) ? new int[] {stone.kind, stone.first, stone.last, stone.number}[what] : -2;
    }

    int ofNode(int number, int what) {
        if (!in(number, 0, 12)) {
            return -1;
        }
        Node node = state.nodes().get(number);
        int[] numbers = {node.stones.size(), node.first, node.last, node.rounds, node.sunk, node.joined};
        return in(what, 0, 5) ? numbers[what] : -2;
    }

    int ofKey(int key, int what) {
        if (!in(key, 0, 26)) {
            return -1;
        }
        int stones = 0;
        Node deepest = null;
        for (Node node : state.path(key)) {
            int here = (int) node.stones.stream().filter(stone -> stone.has(key)).count();
            stones += here;
            deepest = deepest == null && here > 0 ? node : deepest;
        }
        int where = deepest == null ? NONE : state.nodes().indexOf(deepest);
        int[] numbers = {orNone(state.path(key).get(0).value), orNone(state.asRead(key)), stones, where};
        return in(what, 0, 3) ? numbers[what] : -2;
    }

    int count(int what) {
        int present = 0;
        for (int key = 0; key < 27; key++) {
            present += state.asRead(key) == null ? 0 : 1;
        }
        int[] numbers = {state.stones(), state.sent, state.sunk(), state.applied, state.looked, present, pad.length(),
            history.size(), state.buffer, state.doubles};
        return in(what, 0, 9) ? numbers[what] : -2;
    }

    int sum(int first, int last) {
        if (!in(first, 0, 26) || !in(last, first, 26)) {
            return -1;
        }
        int sum = 0;
        for (int key = first; key <= last; key++) {
            Integer value = state.asRead(key);
            sum += value == null ? 0 : value;
        }
        return sum;
    }

    int heaviest(int number) {
        if (!in(number, 0, 12)) {
            return -1;
        }
        Node child = state.heaviest(state.nodes().get(number));
        if (child == null) {
            return NONE;
        }
        return child.isLeaf() ? child.first : state.nodes().indexOf(child);
    }

    int wouldSink(int key) {
        if (!in(key, 0, 26)) {
            return -1;
        }
        State copy = state.copy();
        copy.drop(new Stone(0, key, key, 500));
        return copy.sunk() - state.sunk();
    }

    int worstKey(int what) {
        if (!in(what, 0, 1)) {
            return -2;
        }
        int worst = 26;
        for (int key = 26; key >= 0; key--) {
            worst = wouldSink(key) >= wouldSink(worst) ? key : worst;
        }
        return what == 0 ? worst : wouldSink(worst);
    }

    int toEmptyAll() {
        State copy = state.copy();
        for (Node node : copy.nodes()) {
            copy.empty(node);
        }
        return copy.sunk() - state.sunk();
    }

    int same(int key, int other) {
        if (!in(key, 0, 26) || !in(other, 0, 26)) {
            return -1;
        }
        return orNone(state.asRead(key)) == orNone(state.asRead(other)) ? 1 : 0;
    }

    int put(long characters) {
        String hex = String.format("%016x", characters).replaceFirst("^(00)+", "");
        StringBuilder more = new StringBuilder();
        for (int at = 0; at < hex.length(); at += 2) {
            int code = Integer.parseInt(hex.substring(at, at + 2), 16);
            if (!in(code, 33, 126)) {
                return -2;
            }
            more.append((char) code);
        }
        if (more.length() == 0) {
            return -2;
        }
        if (pad.length() + more.length() > 60) {
            return -4;
        }
        pad += more;
        return pad.length();
    }

    int wipe() {
        int length = pad.length();
        pad = "";
        return length;
    }

    private static final String KEY = "(?:1[0-9]|2[0-6]|[0-9])", NUMBER = "(?:0|[1-9][0-9]{0,2})";
    private static final Pattern ORDER = Pattern.compile(String.format(
        "(%s)(?:=(%s)|(?:-(%s))?\\+(%s)|x)", KEY, NUMBER, KEY, NUMBER));
    private static final Pattern BEGUN = Pattern.compile(String.format(
        "(?:%s(?:=%s?|(?:-%s)?\\+%s?|-%s?|x)?)?", KEY, NUMBER, KEY, NUMBER, KEY));
    private static final Pattern PIECE = Pattern.compile(String.format("(%s)-(%s)\\+.*", KEY, KEY));

    private static boolean falls(String order) {
        Matcher piece = PIECE.matcher(order);
        return piece.matches() && Integer.parseInt(piece.group(2)) < Integer.parseInt(piece.group(1));
    }

    private static boolean canGoOn(String text) {
        String[] orders = text.split(";", -1);
        for (int index = 0; index < orders.length; index++) {
            Pattern pattern = index < orders.length - 1 ? ORDER : BEGUN;
            if (!pattern.matcher(orders[index]).matches() || falls(orders[index])) {
                return false;
            }
        }
        return true;
    }

    int fault() {
        for (int end = 1; end <= pad.length(); end++) {
            if (!canGoOn(pad.substring(0, end))) {
                return end - 1;
            }
        }
        String[] orders = pad.split(";", -1);
        return ORDER.matcher(orders[orders.length - 1]).matches() ? NONE : pad.length();
    }

    int carryOut() {
        if (fault() != NONE) {
            return -3;
        }
        record();
        String[] orders = pad.split(";", -1);
        for (String text : orders) {
            Matcher order = ORDER.matcher(text);
            if (!order.matches()) {
                throw new IllegalStateException(text);
            }
            int first = Integer.parseInt(order.group(1));
            int last = order.group(3) == null ? first : Integer.parseInt(order.group(3));
            if (order.group(2) != null) {
                state.drop(new Stone(0, first, last, Integer.parseInt(order.group(2))));
            } else if (order.group(4) != null) {
                state.drop(new Stone(1, first, last, Integer.parseInt(order.group(4))));
            } else {
                state.drop(new Stone(2, first, last, 0));
            }
        }
        pad = "";
        return orders.length;
    }

    int undo() {
        if (history.isEmpty()) {
            return -5;
        }
        state = history.removeLast();
        return history.size();
    }

    int save(int slot) {
        if (!in(slot, 0, 1)) {
            return -2;
        }
        slots[slot] = state.copy();
        return state.stones();
    }

    int restore(int slot) {
        if (!in(slot, 0, 1)) {
            return -2;
        }
        if (slots[slot] == null) {
            return -5;
        }
        record();
        state = slots[slot].copy();
        return state.stones();
    }
}
