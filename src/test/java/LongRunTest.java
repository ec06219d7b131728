/** Runs of 512 calls, drawn from a fixed row of numbers, each answer compared with the model's. */
public final class LongRunTest {
    private static final int RUNS = 800, CALLS = 512;
    private static final int[] EDGES = {Integer.MIN_VALUE, -7, -2, -1, 0, 1, 2, 3, 4, 5, 6, 9, 10, 11, 12, 13, 26, 27, 28,
        999, 1000, 1 << 20, Integer.MAX_VALUE};
    private static final Check check = new Check();
    private static long seed;

    private final StoneTree tree = new StoneTree();
    private final Model model = new Model();
    private final int run;
    private int calls = 0;

    private LongRunTest(int run) {
        this.run = run;
        seed = 977L * run + 13;
    }

    public static void main(String[] args) {
        for (int run = 0; run < RUNS; run++) {
            LongRunTest test = new LongRunTest(run);
            int looks = draw(CALLS);
            while (test.calls < looks) {
                test.oneCall();
            }
            test.compareAll();
            while (test.calls < CALLS) {
                test.oneCall();
            }
        }
        check.finish();
    }

    private static int draw(int below) {
        seed = seed * 6364136223846793005L + 1442695040888963407L;
        return (int) ((seed >>> 33) % below);
    }

    /** Mostly a number in the range; now and then one from the edges. */
    private static int from(int below) {
        return draw(24) == 0 ? EDGES[draw(EDGES.length)] : draw(below);
    }

    private void due(String call, int got, int want) {
        calls++;
        if (calls <= CALLS) {
            check.due("run " + run + ", call " + calls + ": " + call, got, want);
        }
    }

    private void oneCall() {
        int call = draw(40);
        if (call < 14) {
            sendOne();
        } else if (call < 18) {
            change(call);
        } else if (call < 24) {
            texts(call);
        } else {
            look(call);
        }
    }

    private void sendOne() {
        int kind = draw(3) == 0 ? from(3) : run % 2 == 0 ? 1 : draw(2);
        int first = run % 3 == 0 ? from(6) : from(27);
        int last = kind != 1 || draw(3) == 0 ? first : run % 5 == 0 ? from(27) : Math.min(26, first + draw(14));
        if (draw(40) == 0) {
            last = from(27);
        }
        int number = kind == 2 && draw(9) > 0 ? 0 : from(1000);
        String name = "send " + kind + ' ' + first + ' ' + last + ' ' + number;
        due(name, tree.send(kind, first, last, number), model.send(kind, first, last, number));
    }

    private void change(int call) {
        int a = draw(5) == 0 ? from(13) : from(3);
        int b = from(11);
        switch (call) {
            case 14:
                if (draw(4) == 0) {
                    due("set " + a + ' ' + b, tree.set(a, b), model.set(a, b));
                } else {
                    due("read " + b, tree.read(b), model.read(b));
                }
                break;
            case 15: due("empty " + a, tree.empty(a), model.empty(a)); break;
            case 16: due("undo", tree.undo(), model.undo()); break;
            default:
                if (draw(2) == 0) {
                    due("save " + a, tree.save(a), model.save(a));
                } else if (draw(4) == 0) {
                    due("restore " + a, tree.restore(a), model.restore(a));
                }
                break;
        }
    }

    private void texts(int call) {
        switch (call) {
            case 18: case 19: case 20: putOrder(); break;
            case 21: putAnything(); break;
            case 22: due("carryOut", tree.carryOut(), model.carryOut()); break;
            default:
                due("fault", tree.fault(), model.fault());
                if (model.fault() >= 0 && draw(2) == 0) {
                    due("wipe", tree.wipe(), model.wipe());
                }
                break;
        }
    }

    private void putOrder() {
        int first = draw(27);
        String order = model.count(6) == 0 ? "" : ";";
        switch (draw(4)) {
            case 0: order += first + "=" + draw(1000); break;
            case 1: order += first + "x"; break;
            case 2: order += first + "+" + draw(1000); break;
            default: order += first + "-" + (draw(6) == 0 ? draw(30) : Math.min(26, first + draw(9))) + "+" + draw(100); break;
        }
        for (int at = 0; at < order.length(); at += 4) {
            long packed = Calls.packed(order.substring(at, Math.min(order.length(), at + 4)));
            due("put " + packed, tree.put(packed), model.put(packed));
        }
    }

    private void putAnything() {
        long packed = 0;
        int length = draw(9);
        for (int index = 0; index < length; index++) {
            packed = packed << 8 | (draw(30) == 0 ? draw(256) : "0123456789=+-x;".charAt(draw(15)));
        }
        if (draw(3) > 0) {
            due("wipe", tree.wipe(), model.wipe());
        }
        due("put " + packed, tree.put(packed), model.put(packed));
        due("fault", tree.fault(), model.fault());
    }

    private void look(int call) {
        int a = from(13);
        int b = from(5);
        int c = from(4);
        int key = from(27);
        int other = from(27);
        switch (call) {
            case 24: due("stone " + a + ' ' + b + ' ' + c, tree.stone(a, b, c), model.stone(a, b, c)); break;
            case 25: due("ofNode " + a + ' ' + b, tree.ofNode(a, b), model.ofNode(a, b)); break;
            case 26: due("ofKey " + key + ' ' + c, tree.ofKey(key, c), model.ofKey(key, c)); break;
            case 27: due("count " + a, tree.count(a), model.count(a)); break;
            case 28: due("sum " + key + ' ' + other, tree.sum(key, other), model.sum(key, other)); break;
            case 29: due("heaviest " + a, tree.heaviest(a), model.heaviest(a)); break;
            case 30: due("wouldSink " + key, tree.wouldSink(key), model.wouldSink(key)); break;
            case 31:
                if (draw(6) == 0) {
                    due("worstKey " + b % 3, tree.worstKey(b % 3), model.worstKey(b % 3));
                }
                break;
            case 32: due("toEmptyAll", tree.toEmptyAll(), model.toEmptyAll()); break;
            case 33: due("same " + key + ' ' + other, tree.same(key, other), model.same(key, other)); break;
            default: sendOne(); break;
        }
    }

    private void compareAll() {
        for (int what = 0; what < 10; what++) {
            due("count " + what, tree.count(what), model.count(what));
        }
        for (int node = 0; node < Check.NODES; node++) {
            for (int what = 0; what < 6; what++) {
                due("ofNode " + node + ' ' + what, tree.ofNode(node, what), model.ofNode(node, what));
            }
            due("heaviest " + node, tree.heaviest(node), model.heaviest(node));
            for (int place = 0; place <= model.ofNode(node, 0); place++) {
                for (int what = 0; what < 4; what++) {
                    due("stone " + node + ' ' + place + ' ' + what, tree.stone(node, place, what),
                        model.stone(node, place, what));
                }
            }
        }
        for (int key = 0; key < Check.KEYS; key++) {
            for (int what = 0; what < 4; what++) {
                due("ofKey " + key + ' ' + what, tree.ofKey(key, what), model.ofKey(key, what));
            }
        }
    }
}
