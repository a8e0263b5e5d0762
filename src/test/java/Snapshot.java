import java.util.function.IntSupplier;

/** All that can be asked of an object without changing it, but for the TAPE, fault() and what is remembered. */
final class Snapshot {
    private Snapshot() {
    }

    static String of(ForgetWar x) {
        StringBuilder b = new StringBuilder();
        for (int what = 0; what < 12; what++) {
            b.append(what == 0 ? "counts " : ",").append(x.count(what));
        }
        int seed = x.seed(0);
        x.seed(seed);
        b.append(" seed ").append(seed);
        for (int m = 0; m < x.count(0); m++) {
            int memory = m;
            row(b, "\n memory " + m, 8, k -> x.memory(memory, k));
        }
        for (int d = 0; d < x.count(1); d++) {
            soldier(b, x, d);
        }
        for (int o = 0; o < x.count(2); o++) {
            int order = o;
            row(b, "\n order " + o, 4, k -> x.order(order, k));
        }
        for (int t = 0; t < x.count(6); t++) {
            int thing = t;
            row(b, "\n thing " + t, 3, k -> x.field(thing, k));
        }
        for (int r = 0; r < x.count(11); r++) {
            int ago = r;
            row(b, "\n ago " + r, 5, k -> x.log(ago, k));
        }
        return b.append("\n plans ").append(x.plan(0, false)).append(",").append(x.plan(1, false)).toString();
    }

    private static void soldier(StringBuilder b, ForgetWar x, int d) {
        row(b, "\n soldier " + d, 9, k -> x.soldier(d, k));
        row(b, " knows", x.soldier(d, 2), k -> x.known(d, k));
        row(b, " goes", x.soldier(d, 6), k -> x.place(d, k));
        row(b, " rules", 4, k -> x.rule(d, k));
    }

    /** Also the acts that can be undone, told by undoing them all; the object is worn out by it. */
    static String wearOut(ForgetWar x) {
        StringBuilder b = new StringBuilder(of(x));
        b.append("\n undone ").append(x.count(12));
        for (int k = 0; k < 13 && x.undo(); k++) {
            b.append(" ").append(x.count(5)).append(x.count(9)).append(x.count(10)).append(x.count(6));
        }
        b.append("\n image ").append(x.back() ? 1 : 0);
        return b.append(of(x)).toString();
    }

    private interface Row {
        int at(int k);
    }

    private static void row(StringBuilder b, String name, int size, Row row) {
        b.append(name);
        for (int k = 0; k < size; k++) {
            b.append(k == 0 ? " " : ",").append(row.at(k));
        }
    }

    /** The tape's size, found by end(): it is cut to itself. */
    static int tape(ForgetWar x) {
        for (int n = 400; n > 0; n--) {
            if (x.end(n)) {
                return n;
            }
        }
        return 0;
    }

    static String answer(IntSupplier call) {
        try {
            return "" + call.getAsInt();
        } catch (RuntimeException e) {
            return e.getClass().getSimpleName();
        }
    }
}
