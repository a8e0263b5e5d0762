import java.util.Random;

/** Random runs of calls, of which each answer and each exception is held against the Model's. */
final class FuzzTest {
    private static final int RUNS = 300;
    private static final int CALLS = 300;

    private final Random dice;
    private final ForgetWar x = new ForgetWar();
    private final Model m = new Model();
    private final String name;
    private final int texts;

    private FuzzTest(int seed) {
        dice = new Random(seed);
        name = "seed " + seed;
        texts = 1 + dice.nextInt(9);
    }

    public static void main(String[] args) {
        int from = args.length > 0 ? Integer.parseInt(args[0]) : 0;
        int runs = args.length > 1 ? Integer.parseInt(args[1]) : RUNS;
        for (int seed = from; seed < from + runs; seed++) {
            new FuzzTest(seed).run();
        }
        Check.close("FuzzTest");
    }

    interface Answer {
        int get();
    }

    private static String outcome(Answer call) {
        try {
            return "" + call.get();
        } catch (IndexOutOfBoundsException e) {
            return e.getClass() == IndexOutOfBoundsException.class ? "bounds" : "machine " + e;
        } catch (RuntimeException e) {
            return e.getClass().getName();
        }
    }

    private void both(String call, Answer got, Answer due) {
        String g = outcome(got);
        String d = outcome(due);
        Check.same(name + ": " + call + " answered " + g + ", due is " + d + ";", g.equals(d) ? 1 : 0, 1);
    }

    private int n(int bound) {
        return dice.nextInt(bound);
    }

    /** Mostly a good number below the bound, seldom another one. */
    private int some(int bound) {
        if (n(25) == 0) {
            return new int[] {-1, bound, bound + 1, 99, Integer.MAX_VALUE, Integer.MIN_VALUE, -7}[n(7)];
        }
        return bound < 1 ? 0 : n(bound);
    }

    private int mem() {
        return some(x.count(0));
    }

    private int man() {
        return some(x.count(1));
    }

    private void tell(String text) {
        Check.tell(x, text);
        m.tape.clear();
        for (char c : text.toCharArray()) {
            m.tape.add((int) c);
        }
    }

    private String spoilt(String text) {
        if (n(5) > 0) {
            return text;
        }
        StringBuilder b = new StringBuilder(text);
        for (int k = n(3); k >= 0; k--) {
            int at = n(b.length() + 1);
            switch (n(4)) {
                case 0 -> b.insert(at, " ;0123456789()<>+abnorx\u00ff\u0000".charAt(n(25)));
                case 1 -> {
                    if (at < b.length()) {
                        b.deleteCharAt(at);
                    }
                }
                case 2 -> b.setLength(at);
                default -> b.insert(at, new String[] {"not ", "(", ")", ";", " 9999 ", "memory 5", "needs", " if ", "7 7 7"}[n(9)]);
            }
        }
        b.setLength(Math.min(b.length(), 400));
        return b.toString();
    }

    private String numbers(int bound, int most) {
        StringBuilder b = new StringBuilder();
        for (int k = n(most); k >= 0; k--) {
            b.append(' ').append(bound < 1 ? 0 : n(bound));
        }
        return b.toString();
    }

    private int mems;
    private int men;
    private int orders;
    private final int[] knows = new int[10];

    /** Mostly a right text; what is learnt ahead of it is known to the writer. */
    private void warText(int lines) {
        StringBuilder b = new StringBuilder();
        mems = x.count(0);
        men = x.count(1);
        orders = x.count(2);
        for (int k = 0; k < men; k++) {
            knows[k] = x.soldier(k, 3);
        }
        for (int k = 0; k < lines; k++) {
            String line = warLine();
            if (b.length() + line.length() > 395) {
                break;
            }
            b.append(k > 0 ? ";" : "").append(n(4) == 0 ? " " : "").append(line);
        }
        tell(spoilt(b.toString()));
        both("war()", x::war, m::war);
        both("fault()", x::fault, () -> m.fault);
    }

    private String warLine() {
        boolean rash = n(60) == 0;
        int kind = mems == 0 ? 0 : men == 0 ? 1 : n(13);
        if (kind == 0 || kind == 7 || kind == 8) {
            if (mems == 16 && !rash) {
                return "plan " + n(2) + numbers(mems, 2);
            }
            mems++;
            return "memory " + (1 + n(99)) + (mems > 1 && n(3) > 0 ? " needs" + numbers(mems - 1, 2) : "");
        }
        if (kind == 1 || kind == 9) {
            if (men == 10 && !rash) {
                return "book " + n(men) + numbers(mems, 2);
            }
            if (men < 10) {
                knows[men] = 0;
            }
            men++;
            return "soldier " + n(2) + numbers(n(3) > 0 ? 2 : 8, n(6) == 0 ? 7 : 5);
        }
        if (kind == 4) {
            if (orders == 10 && !rash) {
                return "clash 0 " + (mems - 1);
            }
            orders++;
            return "order " + n(men) + numbers(mems, 3);
        }
        switch (kind) {
            case 3:
                return "book " + n(men) + numbers(mems, 4);
            case 5:
                return "plan " + n(2) + numbers(mems, 3);
            case 6:
                int one = n(mems);
                return "clash " + one + " " + (one + (mems > 1 && !rash ? 1 + n(mems - 1) : 0)) % mems;
            default:
                return knowsLine(Math.min(n(men), 9), rash);
        }
    }

    private String knowsLine(int d, boolean rash) {
        StringBuilder b = new StringBuilder("knows " + d);
        int shift = n(2) * n(mems);
        int step = n(2) == 0 ? 1 : mems - 1;
        int read = 0;
        for (int i = n(mems); i >= 0; i--) {
            int next = (shift + i * step) % mems;
            if (rash || (knows[d] >> next & 1) == 0 && Integer.bitCount(knows[d]) < 12) {
                knows[d] |= 1 << next;
                b.append(' ').append(next);
                read++;
            }
        }
        return read > 0 ? b.toString() : "book " + d + numbers(mems, 3);
    }

    private String sum() {
        StringBuilder b = new StringBuilder();
        for (int k = n(3); k >= 0; k--) {
            b.append(new String[] {"soldier", "side", "place", "hour", "known", "usable", "foes", "" + n(20), "3"}[n(9)]);
            b.append(k > 0 ? "+" : "");
        }
        return b.toString();
    }

    private String condition(int depth) {
        StringBuilder b = new StringBuilder();
        for (int k = n(3); k >= 0; k--) {
            int kind = n(depth > 7 ? 5 : 9);
            b.append(kind == 0 ? "alone" : kind < 5 ? sum() + "<>".charAt(n(2)) + sum()
                : kind < 7 ? "not " + condition(depth + 1) : "(" + condition(depth + 1) + ")");
            b.append(k > 0 ? new String[] {" and ", " or "}[n(2)] : "");
        }
        return b.toString();
    }

    private void lawText() {
        StringBuilder b = new StringBuilder();
        for (int k = n(8); k >= 0; k--) {
            b.append(b.length() > 0 ? ";" : "").append(new String[] {"aim " + n(60), "good " + n(60), "read"}[n(3)]);
            if (n(3) > 0) {
                b.append(" if ").append(condition(n(8)));
            }
        }
        if (n(9) == 0) {
            b.setLength(0);
        }
        tell(spoilt(b.length() > 400 ? b.substring(0, 400) : b.toString()));
        both("law()", x::law, m::law);
        both("fault()", x::fault, () -> m.fault);
    }

    private void run() {
        for (int k = 3 + n(4); k > 0; k--) {
            warText(14);
        }
        for (int k = 0; k < CALLS; k++) {
            call();
        }
    }

    private void call() {
        switch (n(12)) {
            case 0 -> told();
            case 1, 2 -> acts();
            case 3, 4 -> looks();
            case 5 -> plans();
            case 6 -> fights();
            case 7 -> talks();
            case 8 -> peace();
            case 9 -> foresees();
            case 10 -> logs();
            default -> goesBack();
        }
        int what = some(13);
        both("count(" + what + ")", () -> x.count(what), () -> m.count(what));
    }

    private void told() {
        if (n(texts) == 0) {
            warText(1 + n(15));
        } else if (n(3) == 0) {
            lawText();
        } else if (n(3) == 0) {
            int a = dice.nextInt();
            both("feed", () -> x.feed(a, 1, a, -1, a), () -> m.feed(a, 1, a, -1, a));
            int to = n(430) - 9;
            both("end(" + to + ")", () -> x.end(to) ? 1 : 0, () -> m.end(to));
        }
    }

    private void acts() {
        int one = man();
        int other = man();
        int what = mem();
        boolean good = dice.nextBoolean();
        int k = some(Math.max(1, x.count(6)));
        switch (n(6)) {
            case 0 -> {
                int hours = n(4) == 0 ? some(61) : 1 + n(3);
                both("hours(" + hours + ")", () -> x.hours(hours), () -> m.hours(hours));
            }
            case 1, 2 -> both("shoot(" + one + ", " + other + ")", () -> x.shoot(one, other, good), () -> m.shoot(one, other, good));
            case 3 -> teaches(one, other, what);
            case 4 -> both("gather(" + one + ", " + k + ")", () -> x.gather(one, k), () -> m.gather(one, k));
            default -> both("read(" + one + ")", () -> x.read(one), () -> m.read(one));
        }
    }

    /** Also what is likely to be taught: by anybody there, a memory that the first does not know. */
    private void teaches(int one, int other, int memory) {
        int by = other;
        int what = memory;
        for (int k = 0; k < 100 && x.count(1) > 0 && one >= 0 && one < x.count(1); k++) {
            int could = n(x.count(1));
            int new1 = x.soldier(could, 4) & ~x.soldier(one, 3);
            if (could != one && x.soldier(could, 0) == x.soldier(one, 0) && x.soldier(could, 1) == x.soldier(one, 1) && new1 != 0) {
                by = could;
                what = n(5) == 0 ? memory : Integer.numberOfTrailingZeros(new1);
                break;
            }
        }
        int teacher = by;
        int taught = what;
        both("teach(" + one + ", " + by + ", " + what + ")", () -> x.teach(one, teacher, taught), () -> m.teach(one, teacher, taught));
    }

    private void looks() {
        int d = man();
        int e = mem();
        int k = some(12);
        int o = some(x.count(2));
        int t = some(Math.max(1, x.count(6)));
        int hours = n(5) == 0 ? some(1001) : n(40);
        both("memory(" + e + ", " + k + ")", () -> x.memory(e, k % 9), () -> m.memory(e, k % 9));
        both("soldier(" + d + ", " + k + ")", () -> x.soldier(d, k % 10), () -> m.soldier(d, k % 10));
        both("known(" + d + ", " + k + ")", () -> x.known(d, k), () -> m.known(d, k));
        both("place(" + d + ", " + hours + ")", () -> x.place(d, hours), () -> m.place(d, hours));
        both("falls(" + d + ", " + e + ")", () -> x.falls(d, e), () -> m.falls(d, e));
        both("order(" + o + ", " + k + ")", () -> x.order(o, k % 5), () -> m.order(o, k % 5));
        both("rule(" + d + ", " + k + ")", () -> x.rule(d, k % 5), () -> m.rule(d, k % 5));
        both("field(" + t + ", " + k + ")", () -> x.field(t, k % 4), () -> m.field(t, k % 4));
    }

    private void plans() {
        int d = man();
        int e = mem();
        int side = some(2);
        int k = some(14);
        boolean one = dice.nextBoolean();
        boolean two = dice.nextBoolean();
        both("plan(" + side + ")", () -> x.plan(side, one), () -> m.plan(side, one));
        both("shots(" + d + ", " + e + ", " + one + ")", () -> x.shots(d, e, one), () -> m.shots(d, e, one));
        both("outlasts(" + side + ", " + one + ", " + two + ")", () -> x.outlasts(side, one, two), () -> m.outlasts(side, one, two));
        both("reserves(" + side + ", " + k + ")", () -> x.reserves(side, k), () -> m.reserves(side, k));
        both("company(" + k + ")", () -> x.company(k), () -> m.company(k));
        both("drill(" + one + ")", () -> x.drill(one), () -> m.drill(one));
    }

    private void fights() {
        int one = man();
        int other = man();
        both("duel(" + one + ", " + other + ")", () -> x.duel(one, other), () -> m.duel(one, other));
        both("best(" + one + ", " + other + ")", () -> x.best(one, other), () -> m.best(one, other));
    }

    private void talks() {
        int e = mem();
        int side = some(2);
        int hours = n(3) == 0 ? some(61) : n(6);
        int one = man();
        int other = man();
        both("spread(" + e + ", " + side + ", " + hours + ")", () -> x.spread(e, side, hours), () -> m.spread(e, side, hours));
        if (n(5) == 0) {
            both("soonest(" + one + ", " + other + ")", () -> x.soonest(one, other), () -> m.soonest(one, other));
        }
        if (n(5) == 0) {
            both("mute(" + e + ", " + side + ")", () -> x.mute(e, side), () -> m.mute(e, side));
        }
        both("meets(" + one + ", " + other + ")", () -> x.meets(one, other), () -> m.meets(one, other));
    }

    private void peace() {
        int d = man();
        int set = n(3) == 0 ? dice.nextInt() : 1 << n(16) | 1 << n(16);
        boolean undone = dice.nextBoolean();
        if (n(4) == 0) {
            both("amends(" + d + ")", () -> x.amends(d), () -> m.amends(d));
        }
        both("agreed()", () -> x.agreed(), () -> m.agreed());
        both("treaty(" + set + ", " + undone + ")", () -> x.treaty(set, undone), () -> m.treaty(set, undone));
        int part = x.agreed() & set;
        both("treaty(" + part + ", " + undone + ")", () -> x.treaty(part, undone), () -> m.treaty(part, undone));
    }

    private void foresees() {
        int size = n(20) == 0 ? n(11) : n(5);
        StringBuilder b = new StringBuilder();
        for (int k = 0; k < size; k++) {
            b.append((char) (n(40) == 0 ? n(256) : n(Math.max(1, x.count(0)))));
        }
        int place = n(20) == 0 ? some(8) : x.count(1) > 0 ? x.place(n(x.count(1)), 0) : 0;
        int k = n(3) == 0 ? -1 : some(size);
        tell(b.toString());
        both("matches(" + place + ", " + k + ")", () -> x.matches(place, k), () -> m.matches(place, k));
        int hours = n(8) == 0 ? some(61) : n(5);
        int what = some(4);
        both("trial(" + hours + ", " + what + ")", () -> x.trial(hours, what), () -> m.trial(hours, what));
        int side = some(2);
        int few = n(8) == 0 ? some(25) : n(4);
        boolean most = dice.nextBoolean();
        both("span(" + side + ", " + few + ", " + most + ")", () -> x.span(side, few, most), () -> m.span(side, few, most));
    }

    private void logs() {
        int ago = some(Math.max(1, x.count(11)));
        int what = some(5);
        int d = man();
        int e = mem();
        both("log(" + ago + ", " + what + ")", () -> x.log(ago, what), () -> m.log(ago, what));
        both("led(" + d + ", " + e + ")", () -> x.led(d, e), () -> m.led(d, e));
        both("hitter()", () -> x.hitter(), () -> m.hitter());
        if (n(3) == 0) {
            int seed = dice.nextInt();
            both("seed(" + seed + ")", () -> x.seed(seed), () -> m.seed(seed));
        }
    }

    private void goesBack() {
        int kind = n(8);
        if (kind < 4) {
            both("undo()", () -> x.undo() ? 1 : 0, () -> m.undo());
        } else if (kind < 5) {
            x.image();
            m.image();
        } else if (kind < 6) {
            both("back()", () -> x.back() ? 1 : 0, () -> m.back());
        }
    }
}
