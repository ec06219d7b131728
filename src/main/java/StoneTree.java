public final class StoneTree {
    public static final int NO_SUCH = -1, BAD_VALUE = -2, BAD_TEXT = -3, TOO_MANY = -4, NOT_POSSIBLE = -5, NONE = -6;
    public static final int BUFFER = 0, DOUBLES = 1;
    public static final int SET = 0, ADD = 1, ERASE = 2;

    private static final int KEYS = 27;
    private static final int NODES = 13;
    private static final int CHILDREN = 3;
    private static final int LEVELS = 3;
    private static final int FIRST_MIDDLE = 1;
    private static final int FIRST_LOW = 4;
    private static final int MOST_BUFFER = 10;
    // A buffer holds one stone too many while it sinks, and each of them may be cut in two then.
    private static final int ROOM = 2 * (MOST_BUFFER + 1);
    private static final int VALUES = 1000;
    // A key that is absent holds NONE, so that its value can be answered as it is.
    private static final int ABSENT = NONE;
    private static final int SLOTS = 2;

    private final Tree tree = new Tree();
    // What if: the calls that change nothing let stones sink here.
    private final Tree trial = new Tree();
    private final History history = new History();
    private final Tree[] slots = new Tree[SLOTS];
    private final boolean[] saved = new boolean[SLOTS];
    private final Pad pad = new Pad();

    public StoneTree() {
        for (int slot = 0; slot < slots.length; slot++) {
            slots[slot] = new Tree();
        }
    }

    // ---- stones

    public int set(int setting, int value) {
        if (!isSettingValue(setting, value)) {
            return BAD_VALUE;
        }
        history.record(tree);
        return tree.changeSetting(setting, value);
    }

    public int send(int kind, int first, int last, int number) {
        if (kind < SET || kind > ERASE || !isNumberFor(kind, number)) {
            return BAD_VALUE;
        }
        if (!isPiece(first, last) || (kind != ADD && last != first)) {
            return NO_SUCH;
        }
        history.record(tree);
        tree.drop(Stone.of(kind, first, last, number));
        return tree.stones();
    }

    public int empty(int node) {
        if (!isNode(node)) {
            return NO_SUCH;
        }
        history.record(tree);
        tree.emptyBuffer(node);
        return tree.stones();
    }

    public int read(int key) {
        if (!isKey(key)) {
            return NO_SUCH;
        }
        history.record(tree);
        tree.noteRead();
        return tree.valueAsRead(key);
    }

    // ---- what there is

    public int stone(int node, int place, int what) {
        if (!isNode(node) || place < 0 || place >= tree.stonesIn(node)) {
            return NO_SUCH;
        }
        int stone = tree.stoneAt(node, place);
        switch (what) {
            case 0: return Stone.kind(stone);
            case 1: return Stone.first(stone);
            case 2: return Stone.last(stone);
            case 3: return Stone.number(stone);
            default: return BAD_VALUE;
        }
    }

    public int ofNode(int node, int what) {
        if (!isNode(node)) {
            return NO_SUCH;
        }
        switch (what) {
            case 0: return tree.stonesIn(node);
            case 1: return Shape.firstKey(node);
            case 2: return Shape.lastKey(node);
            case 3: return tree.timesSunk(node);
            case 4: return tree.stonesSunk(node);
            case 5: return tree.stonesJoined(node);
            default: return BAD_VALUE;
        }
    }

    public int ofKey(int key, int what) {
        if (!isKey(key)) {
            return NO_SUCH;
        }
        switch (what) {
            case 0: return tree.valueInLeaf(key);
            case 1: return tree.valueAsRead(key);
            case 2: return tree.stonesWith(key);
            case 3: return tree.deepestWith(key);
            default: return BAD_VALUE;
        }
    }

    public int count(int what) {
        switch (what) {
            case 0: return tree.stones();
            case 1: return tree.stonesSent();
            case 2: return tree.allStonesSunk();
            case 3: return tree.stonesApplied();
            case 4: return tree.buffersLookedAt();
            case 5: return tree.keysPresent();
            case 6: return pad.length();
            case 7: return history.states();
            case 8: return tree.setting(BUFFER);
            case 9: return tree.setting(DOUBLES);
            default: return BAD_VALUE;
        }
    }

    // ---- what if; nothing changes

    public int sum(int first, int last) {
        if (!isPiece(first, last)) {
            return NO_SUCH;
        }
        return tree.sumAsRead(first, last);
    }

    public int heaviest(int node) {
        if (!isNode(node)) {
            return NO_SUCH;
        }
        int child = tree.heaviestChild(node);
        if (child < 0) {
            return NONE;
        }
        return Shape.isLow(node) ? Shape.firstKeyOfChild(node, child) : Shape.childNode(node, child);
    }

    public int wouldSink(int key) {
        if (!isKey(key)) {
            return NO_SUCH;
        }
        return sunkBySetting(key);
    }

    public int worstKey(int what) {
        if (what != 0 && what != 1) {
            return BAD_VALUE;
        }
        int worst = 0;
        int most = sunkBySetting(0);
        for (int key = 1; key < KEYS; key++) {
            int sunk = sunkBySetting(key);
            if (sunk > most) {
                worst = key;
                most = sunk;
            }
        }
        return what == 0 ? worst : most;
    }

    public int toEmptyAll() {
        trial.copyFrom(tree);
        for (int node = 0; node < NODES; node++) {
            trial.emptyBuffer(node);
        }
        return trial.allStonesSunk() - tree.allStonesSunk();
    }

    public int same(int key, int other) {
        if (!isKey(key) || !isKey(other)) {
            return NO_SUCH;
        }
        return tree.valueAsRead(key) == tree.valueAsRead(other) ? 1 : 0;
    }

    // ---- texts

    public int put(long characters) {
        int more = Pad.charactersIn(characters);
        if (more == 0) {
            return BAD_VALUE;
        }
        if (pad.length() + more > Pad.LONGEST) {
            return TOO_MANY;
        }
        pad.append(characters, more);
        return pad.length();
    }

    public int wipe() {
        int length = pad.length();
        pad.clear();
        return length;
    }

    public int fault() {
        return pad.readOrders();
    }

    public int carryOut() {
        if (pad.readOrders() != NONE) {
            return BAD_TEXT;
        }
        history.record(tree);
        int orders = pad.orders();
        for (int index = 0; index < orders; index++) {
            tree.drop(pad.order(index));
        }
        pad.clear();
        return orders;
    }

    // ---- undo, saving

    public int undo() {
        if (history.states() == 0) {
            return NOT_POSSIBLE;
        }
        history.takeBack(tree);
        return history.states();
    }

    public int save(int slot) {
        if (!isSlot(slot)) {
            return BAD_VALUE;
        }
        slots[slot].copyFrom(tree);
        saved[slot] = true;
        return tree.stones();
    }

    public int restore(int slot) {
        if (!isSlot(slot)) {
            return BAD_VALUE;
        }
        if (!saved[slot]) {
            return NOT_POSSIBLE;
        }
        history.record(tree);
        tree.copyFrom(slots[slot]);
        return tree.stones();
    }

    private int sunkBySetting(int key) {
        trial.copyFrom(tree);
        trial.drop(Stone.of(SET, key, key, 0));
        return trial.allStonesSunk() - tree.allStonesSunk();
    }

    private boolean isSlot(int slot) {
        return slot >= 0 && slot < SLOTS && slots[slot] != null;
    }

    private static boolean isSettingValue(int setting, int value) {
        if (setting == BUFFER) {
            return value >= 1 && value <= MOST_BUFFER;
        }
        return setting == DOUBLES && (value == 0 || value == 1);
    }

    private static boolean isNumberFor(int kind, int number) {
        return number >= 0 && number < (kind == ERASE ? 1 : VALUES);
    }

    private static boolean isNode(int node) {
        return node >= 0 && node < NODES;
    }

    private static boolean isKey(int key) {
        return key >= 0 && key < KEYS;
    }

    private static boolean isPiece(int first, int last) {
        return isKey(first) && isKey(last) && first <= last;
    }

    /** Which keys and children a node has. */
    private static final class Shape {
        private static final int[] FIRST_KEYS = {0, 0, 9, 18, 0, 3, 6, 9, 12, 15, 18, 21, 24};
        private static final int[] KEYS_OF_CHILD = {9, 3, 3, 3, 1, 1, 1, 1, 1, 1, 1, 1, 1};

        static boolean isLow(int node) {
            return node >= FIRST_LOW;
        }

        static int level(int node) {
            if (node < FIRST_MIDDLE) {
                return 0;
            }
            return node < FIRST_LOW ? 1 : 2;
        }

        static int firstKey(int node) {
            return node >= 0 && node < FIRST_KEYS.length ? FIRST_KEYS[node] : 0;
        }

        static int lastKey(int node) {
            return lastKeyOfChild(node, CHILDREN - 1);
        }

        static int firstKeyOfChild(int node, int child) {
            return firstKey(node) + child * keysOfChild(node);
        }

        static int lastKeyOfChild(int node, int child) {
            return firstKeyOfChild(node, child + 1) - 1;
        }

        private static int keysOfChild(int node) {
            return node >= 0 && node < KEYS_OF_CHILD.length ? KEYS_OF_CHILD[node] : 0;
        }

        static int childNode(int node, int child) {
            return CHILDREN * node + 1 + child;
        }

        static int parent(int node) {
            return node < FIRST_MIDDLE ? 0 : (node - 1) / CHILDREN;
        }

        static int lowNodeOf(int key) {
            return FIRST_LOW + key / CHILDREN;
        }
    }

    /** A stone is one number, so that a buffer is a row of numbers: kind, first and last key, number. */
    private static final class Stone {
        static int of(int kind, int first, int last, int number) {
            return kind << 20 | first << 15 | last << 10 | number;
        }

        static int kind(int stone) {
            return stone >> 20;
        }

        static int first(int stone) {
            return stone >> 15 & 31;
        }

        static int last(int stone) {
            return stone >> 10 & 31;
        }

        static int number(int stone) {
            return stone & 1023;
        }

        static boolean isOfOneKey(int stone) {
            return first(stone) == last(stone);
        }

        static boolean touches(int stone, int from, int to) {
            return first(stone) <= to && last(stone) >= from;
        }

        static int part(int stone, int from, int to) {
            return of(kind(stone), Math.max(first(stone), from), Math.min(last(stone), to), number(stone));
        }

        static int valueAfter(int stone, int value) {
            switch (kind(stone)) {
                case SET: return number(stone);
                case ADD: return value == ABSENT ? ABSENT : (value + number(stone)) % VALUES;
                default: return ABSENT;
            }
        }
    }

    /** All that undo, save and restore take with them. */
    private static final class Tree {
        private final int[] settings = {4, 1};
        private final int[] leaves = new int[KEYS];
        private final int[] sizes = new int[NODES];
        // The buffer of a node begins at node * ROOM.
        private final int[] buffers = new int[NODES * ROOM];
        private final int[] timesSunk = new int[NODES];
        private final int[] stonesSunk = new int[NODES];
        private final int[] stonesJoined = new int[NODES];
        private int stonesSent;
        private int stonesApplied;
        private int buffersLookedAt;

        Tree() {
            for (int key = 0; key < leaves.length; key++) {
                leaves[key] = ABSENT;
            }
        }

        void copyFrom(Tree other) {
            if (other == null) {
                return;
            }
            copyRow(other.settings, settings);
            copyRow(other.leaves, leaves);
            copyRow(other.sizes, sizes);
            copyRow(other.buffers, buffers);
            copyRow(other.timesSunk, timesSunk);
            copyRow(other.stonesSunk, stonesSunk);
            copyRow(other.stonesJoined, stonesJoined);
            stonesSent = other.stonesSent;
            stonesApplied = other.stonesApplied;
            buffersLookedAt = other.buffersLookedAt;
        }

        private static void copyRow(int[] from, int[] to) {
            System.arraycopy(from, 0, to, 0, Math.min(from.length, to.length));
        }

        int setting(int setting) {
            return setting >= 0 && setting < settings.length ? settings[setting] : 0;
        }

        int changeSetting(int setting, int value) {
            int previous = setting(setting);
            if (setting >= 0 && setting < settings.length) {
                settings[setting] = value;
            }
            return previous;
        }

        int stonesIn(int node) {
            return node >= 0 && node < sizes.length ? sizes[node] : 0;
        }

        int timesSunk(int node) {
            return numberOf(timesSunk, node);
        }

        int stonesSunk(int node) {
            return numberOf(stonesSunk, node);
        }

        int stonesJoined(int node) {
            return numberOf(stonesJoined, node);
        }

        int stonesSent() {
            return stonesSent;
        }

        int stonesApplied() {
            return stonesApplied;
        }

        int buffersLookedAt() {
            return buffersLookedAt;
        }

        int stones() {
            return total(sizes);
        }

        int allStonesSunk() {
            return total(stonesSunk);
        }

        private static int numberOf(int[] row, int node) {
            return node >= 0 && node < row.length ? row[node] : 0;
        }

        private static void addTo(int[] row, int node, int more) {
            if (node >= 0 && node < row.length) {
                row[node] += more;
            }
        }

        private static int total(int[] row) {
            int total = 0;
            for (int number : row) {
                total += number;
            }
            return total;
        }

        int stoneAt(int node, int place) {
            boolean isThere = node >= 0 && node < NODES && place >= 0 && place < ROOM;
            return isThere ? buffers[node * ROOM + place] : 0;
        }

        private void layAt(int node, int place, int stone) {
            if (node >= 0 && node < NODES && place >= 0 && place < ROOM) {
                buffers[node * ROOM + place] = stone;
            }
        }

        private void putIn(int node, int place, int stone) {
            int size = stonesIn(node);
            if (size >= ROOM) {
                return;
            }
            for (int behind = size; behind > place; behind--) {
                layAt(node, behind, stoneAt(node, behind - 1));
            }
            layAt(node, place, stone);
            addTo(sizes, node, 1);
        }

        private void takeOut(int node, int place) {
            int size = stonesIn(node);
            for (int behind = place + 1; behind < size; behind++) {
                layAt(node, behind - 1, stoneAt(node, behind));
            }
            addTo(sizes, node, -1);
        }

        // ---- sinking

        void drop(int stone) {
            stonesSent++;
            come(0, stone, 0);
        }

        void emptyBuffer(int node) {
            for (int child = 0; child < CHILDREN; child++) {
                sinkInto(node, child, Shape.level(node));
            }
        }

        /** The level is the depth of the recursion: come and sinkInto call one another. */
        private void come(int node, int stone, int level) {
            if (level >= LEVELS) {
                return;
            }
            putIn(node, stonesIn(node), stone);
            if (setting(DOUBLES) == 1) {
                joinLast(node);
            }
            // Once each child has got its stones, nothing is left: no more rounds than children.
            for (int round = 0; round < CHILDREN && stonesIn(node) > setting(BUFFER); round++) {
                sinkInto(node, heaviestChild(node), level);
            }
        }

        private void sinkInto(int node, int child, int level) {
            if (child < 0 || child >= CHILDREN) {
                return;
            }
            int from = Shape.firstKeyOfChild(node, child);
            int to = Shape.lastKeyOfChild(node, child);
            int size = stonesIn(node);
            int place = 0;
            int down = 0;
            for (int looked = 0; looked < size; looked++) {
                int stone = stoneAt(node, place);
                if (!Stone.touches(stone, from, to)) {
                    place++;
                    continue;
                }
                place += leaveRest(node, place, from, to);
                down++;
                int part = Stone.part(stone, from, to);
                if (Shape.isLow(node)) {
                    applyToLeaf(from, part);
                } else {
                    come(Shape.childNode(node, child), part, level + 1);
                }
            }
            if (down > 0) {
                addTo(timesSunk, node, 1);
                addTo(stonesSunk, node, down);
            }
        }

        /** Cuts a piece of keys out of a stone, and tells how many stones are left at its place. */
        private int leaveRest(int node, int place, int from, int to) {
            int stone = stoneAt(node, place);
            int left = 0;
            takeOut(node, place);
            if (Stone.first(stone) < from) {
                putIn(node, place, Stone.part(stone, 0, from - 1));
                left++;
            }
            if (Stone.last(stone) > to) {
                putIn(node, place + left, Stone.part(stone, to + 1, KEYS - 1));
                left++;
            }
            return left;
        }

        private void applyToLeaf(int key, int stone) {
            if (key >= 0 && key < leaves.length) {
                leaves[key] = Stone.valueAfter(stone, leaves[key]);
            }
            stonesApplied++;
        }

        private void joinLast(int node) {
            int end = stonesIn(node) - 1;
            int stone = stoneAt(node, end);
            if (!Stone.isOfOneKey(stone)) {
                return;
            }
            int place = lastPlaceWith(node, Stone.first(stone), end);
            if (place < 0 || !Stone.isOfOneKey(stoneAt(node, place))) {
                return;
            }
            if (Stone.kind(stone) == ADD) {
                layAt(node, place, withMore(stoneAt(node, place), Stone.number(stone)));
                takeOut(node, end);
            } else {
                takeOut(node, place);
            }
            addTo(stonesJoined, node, 1);
        }

        private static int withMore(int stone, int more) {
            if (Stone.kind(stone) == ERASE) {
                return stone;
            }
            int number = (Stone.number(stone) + more) % VALUES;
            return Stone.of(Stone.kind(stone), Stone.first(stone), Stone.last(stone), number);
        }

        private int lastPlaceWith(int node, int key, int ahead) {
            for (int place = ahead - 1; place >= 0; place--) {
                if (Stone.touches(stoneAt(node, place), key, key)) {
                    return place;
                }
            }
            return -1;
        }

        /** The place of the child among its parent's children; -1 if the buffer has no stones. */
        int heaviestChild(int node) {
            int heaviest = -1;
            int most = 0;
            for (int child = 0; child < CHILDREN; child++) {
                int weight = stonesTouching(node, Shape.firstKeyOfChild(node, child), Shape.lastKeyOfChild(node, child));
                if (weight > most) {
                    heaviest = child;
                    most = weight;
                }
            }
            return heaviest;
        }

        private int stonesTouching(int node, int from, int to) {
            int touching = 0;
            int size = stonesIn(node);
            for (int place = 0; place < size; place++) {
                if (Stone.touches(stoneAt(node, place), from, to)) {
                    touching++;
                }
            }
            return touching;
        }

        // ---- fishing

        void noteRead() {
            buffersLookedAt += LEVELS;
        }

        int valueInLeaf(int key) {
            return key >= 0 && key < leaves.length ? leaves[key] : ABSENT;
        }

        int valueAsRead(int key) {
            int value = valueInLeaf(key);
            int node = Shape.lowNodeOf(key);
            for (int level = 0; level < LEVELS; level++) {
                value = valueAbove(node, key, value);
                node = Shape.parent(node);
            }
            return value;
        }

        private int valueAbove(int node, int key, int value) {
            int size = stonesIn(node);
            int now = value;
            for (int place = 0; place < size; place++) {
                int stone = stoneAt(node, place);
                if (Stone.touches(stone, key, key)) {
                    now = Stone.valueAfter(stone, now);
                }
            }
            return now;
        }

        int stonesWith(int key) {
            int stones = 0;
            int node = Shape.lowNodeOf(key);
            for (int level = 0; level < LEVELS; level++) {
                stones += stonesTouching(node, key, key);
                node = Shape.parent(node);
            }
            return stones;
        }

        int deepestWith(int key) {
            int node = Shape.lowNodeOf(key);
            for (int level = 0; level < LEVELS; level++) {
                if (stonesTouching(node, key, key) > 0) {
                    return node;
                }
                node = Shape.parent(node);
            }
            return NONE;
        }

        int keysPresent() {
            int present = 0;
            for (int key = 0; key < KEYS; key++) {
                if (valueAsRead(key) != ABSENT) {
                    present++;
                }
            }
            return present;
        }

        int sumAsRead(int first, int last) {
            int sum = 0;
            for (int key = first; key <= last; key++) {
                int value = valueAsRead(key);
                if (value != ABSENT) {
                    sum += value;
                }
            }
            return sum;
        }
    }

    /** The states before the latest changes, in a ring. */
    private static final class History {
        private static final int MOST = 6;
        private final Tree[] ring = new Tree[MOST];
        private int next;
        private int states;

        History() {
            for (int place = 0; place < ring.length; place++) {
                ring[place] = new Tree();
            }
        }

        int states() {
            return states;
        }

        void record(Tree now) {
            if (next < 0 || next >= MOST || ring[next] == null) {
                return;
            }
            ring[next].copyFrom(now);
            next = (next + 1) % MOST;
            states = Math.min(states + 1, MOST);
        }

        void takeBack(Tree now) {
            int latest = (next + MOST - 1) % MOST;
            if (states == 0 || now == null || latest < 0) {
                return;
            }
            now.copyFrom(ring[latest]);
            next = latest;
            states--;
        }
    }

    /** The text, and the orders that were read from it last, as stones. */
    private static final class Pad {
        private static final int LONGEST = 60;
        private static final int MOST_AT_ONCE = 8;
        // The shortest orders are a digit and an x, with a semicolon between each two.
        private static final int MOST_ORDERS = (LONGEST + 1) / 3;
        private final char[] characters = new char[LONGEST];
        private final int[] orders = new int[MOST_ORDERS];
        private int length;
        private int ordersRead;
        // All ahead of it can stand at its place: where reading stops, it is the fault.
        private int cursor;

        int length() {
            return length;
        }

        int orders() {
            return ordersRead;
        }

        int order(int index) {
            return index >= 0 && index < orders.length ? orders[index] : 0;
        }

        void clear() {
            length = 0;
        }

        /** How many characters a number holds; 0 if it does not hold characters as it should. */
        static int charactersIn(long packed) {
            long rest = packed;
            int count = 0;
            for (int index = 0; index < MOST_AT_ONCE && (rest & 255) != 0; index++) {
                if ((rest & 255) < 33 || (rest & 255) > 126) {
                    return 0;
                }
                rest >>>= 8;
                count++;
            }
            return rest == 0 ? count : 0;
        }

        void append(long packed, int count) {
            for (int index = count - 1; index >= 0; index--) {
                if (length >= 0 && length < characters.length) {
                    characters[length] = (char) (packed >>> 8 * index & 255);
                    length++;
                }
            }
        }

        /** Reads all orders, and returns the fault, or NONE. */
        int readOrders() {
            ordersRead = 0;
            cursor = 0;
            for (int order = 0; order < MOST_ORDERS; order++) {
                if (!readOrder()) {
                    return cursor;
                }
                if (cursor == length) {
                    return NONE;
                }
                if (!take(';')) {
                    return cursor;
                }
            }
            return cursor;
        }

        private boolean readOrder() {
            int first = readNumber(KEYS - 1);
            if (first < 0) {
                return false;
            }
            if (take('x')) {
                return keep(ERASE, first, first, 0);
            }
            if (take('=')) {
                return keep(SET, first, first, readNumber(VALUES - 1));
            }
            int last = first;
            if (take('-')) {
                last = readNumber(KEYS - 1);
            }
            if (last < first || !take('+')) {
                return false;
            }
            return keep(ADD, first, last, readNumber(VALUES - 1));
        }

        private boolean keep(int kind, int first, int last, int number) {
            if (number < 0 || ordersRead < 0 || ordersRead >= orders.length) {
                return false;
            }
            orders[ordersRead] = Stone.of(kind, first, last, number);
            ordersRead++;
            return true;
        }

        /** Reads digits as far as they can stand; -1 if there is none. */
        private int readNumber(int most) {
            int number = -1;
            for (int digits = 0; digits < LONGEST; digits++) {
                int digit = digitAtCursor();
                if (digit < 0 || number == 0) {
                    return number;
                }
                int longer = Math.max(number, 0) * 10 + digit;
                if (longer > most) {
                    return number;
                }
                number = longer;
                cursor++;
            }
            return number;
        }

        private int digitAtCursor() {
            char character = characterAtCursor();
            return character >= '0' && character <= '9' ? character - '0' : -1;
        }

        private boolean take(char expected) {
            if (characterAtCursor() != expected) {
                return false;
            }
            cursor++;
            return true;
        }

        /** Character 0, which no pad has, stands for the end. */
        private char characterAtCursor() {
            boolean inside = cursor >= 0 && cursor < length && cursor < characters.length;
            return inside ? characters[cursor] : 0;
        }
    }
}
