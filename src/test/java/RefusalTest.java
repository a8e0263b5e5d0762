import java.util.ArrayList;
import java.util.List;

/** Calls that throw: which exception, which of several, and that nothing changes; calls that ask, that nothing does. */
final class RefusalTest {
    private interface Call {
        int on(ForgetWar x);
    }

    private record Refused(String what, String due, Call call) {
    }

    private static final String BOUNDS = "IndexOutOfBoundsException";
    private static final String NUMBER = "IllegalArgumentException";
    private static final String STATE = "IllegalStateException";
    private static final String WHAT = "NoSuchElementException";

    private static final List<Refused> CALLS = new ArrayList<>();

    public static void main(String[] args) {
        memories();
        soldiers();
        orders();
        acts();
        sides();
        pairs();
        numbersAndWhats();
        toldFirst();
        for (Refused one : CALLS) {
            refuses(one);
        }
        scene();
        usesTheTapeUp();
        asksChangeNothing();
        falseChangesNothing();
        Check.close("RefusalTest");
    }

    private static void add(String due, String what, Call call) {
        CALLS.add(new Refused(what, due, call));
    }

    private static int one(boolean yes) {
        return yes ? 1 : 0;
    }

    /** "a call that throws changes nothing": the same as of an object that was never asked. */
    private static void refuses(Refused one) {
        ForgetWar x = Scenes.midst();
        Check.alike(one.what, Snapshot.answer(() -> one.call.on(x)), one.due);
        Check.same("fault behind " + one.what, x.fault(), 9);
        Check.same("tape behind " + one.what, Snapshot.tape(x), 3);
        Check.alike("all behind " + one.what, Snapshot.wearOut(x), Snapshot.wearOut(Scenes.midst()));
    }

    /** "there is no such MEMORY". */
    private static void memories() {
        for (int m : new int[] {-1, 4, 16, Integer.MIN_VALUE, Integer.MAX_VALUE}) {
            add(BOUNDS, "memory " + m, x -> x.memory(m, 0));
            add(BOUNDS, "falls of " + m, x -> x.falls(0, m));
            add(BOUNDS, "teach " + m, x -> x.teach(1, 0, m));
            add(BOUNDS, "shots till " + m, x -> x.shots(0, m, true));
            add(BOUNDS, "spread of " + m, x -> x.spread(m, 0, 0));
            add(BOUNDS, "mute for " + m, x -> x.mute(m, 0));
            add(BOUNDS, "led to " + m, x -> x.led(0, m));
        }
    }

    /** "there is no such .. SOLDIER". */
    private static void soldiers() {
        for (int d : new int[] {-1, 5, 10, Integer.MIN_VALUE, Integer.MAX_VALUE}) {
            add(BOUNDS, "soldier " + d, x -> x.soldier(d, 0));
            add(BOUNDS, "known to " + d, x -> x.known(d, 0));
            add(BOUNDS, "place of " + d, x -> x.place(d, 0));
            add(BOUNDS, "falls by " + d, x -> x.falls(d, 0));
            add(BOUNDS, "rule for " + d, x -> x.rule(d, 0));
            add(BOUNDS, "shoot by " + d, x -> x.shoot(d, 2, true));
            add(BOUNDS, "shoot at " + d, x -> x.shoot(0, d, true));
            add(BOUNDS, "teach to " + d, x -> x.teach(d, 0, 2));
            add(BOUNDS, "teach by " + d, x -> x.teach(1, d, 2));
            add(BOUNDS, "gather by " + d, x -> x.gather(d, 0));
            add(BOUNDS, "read by " + d, x -> x.read(d));
            add(BOUNDS, "shots at " + d, x -> x.shots(d, 0, false));
            add(BOUNDS, "duel of " + d, x -> x.duel(d, 0));
            add(BOUNDS, "duel with " + d, x -> x.duel(0, d));
            add(BOUNDS, "best of " + d, x -> x.best(d, 0));
            add(BOUNDS, "best against " + d, x -> x.best(0, d));
            add(BOUNDS, "soonest from " + d, x -> x.soonest(d, 0));
            add(BOUNDS, "soonest to " + d, x -> x.soonest(0, d));
            add(BOUNDS, "amends of " + d, x -> x.amends(d));
            add(BOUNDS, "meets " + d, x -> x.meets(d, 0));
            add(BOUNDS, "meets with " + d, x -> x.meets(0, d));
            add(BOUNDS, "led of " + d, x -> x.led(d, 0));
        }
    }

    /** "there is no such .. ORDER .. thing in the FIELD". */
    private static void orders() {
        for (int k : new int[] {-1, 2, 10, 40, Integer.MIN_VALUE, Integer.MAX_VALUE}) {
            add(BOUNDS, "order " + k, x -> x.order(k, 0));
            add(BOUNDS, "field " + k, x -> x.field(k, 0));
            add(BOUNDS, "gather " + k, x -> x.gather(0, k));
        }
    }

    /** "IllegalStateException: it cannot be". */
    private static void acts() {
        add(STATE, "shoot of one side", x -> x.shoot(0, 1, true));
        add(STATE, "shoot not in one place", x -> x.shoot(0, 3, true));
        add(STATE, "shoot at who knows nothing", x -> x.shoot(0, 4, false));
        add(STATE, "shoot of one side at who knows nothing", x -> x.shoot(2, 4, false));
        add(STATE, "teach by one who cannot use it", x -> x.teach(4, 2, 3));
        add(STATE, "teach by one of the other side", x -> x.teach(1, 2, 2));
        add(STATE, "teach by one elsewhere", x -> x.teach(4, 3, 0));
        add(STATE, "teach what is known", x -> x.teach(1, 0, 0));
        add(STATE, "gather what is known", x -> x.gather(0, 1));
        add(STATE, "gather what cannot be learnt", x -> x.gather(4, 0));
        add(STATE, "gather what is elsewhere", x -> x.gather(3, 0));
        add(STATE, "read without a book", x -> x.read(0));
    }

    /** "there is no such .. SIDE". */
    private static void sides() {
        for (int side : new int[] {-1, 2, Integer.MIN_VALUE, Integer.MAX_VALUE}) {
            add(BOUNDS, "plan of " + side, x -> x.plan(side, side > 0));
            add(BOUNDS, "outlasts of " + side, x -> x.outlasts(side, true, false));
            add(BOUNDS, "reserves of " + side, x -> x.reserves(side, 1));
            add(BOUNDS, "spread in " + side, x -> x.spread(0, side, 0));
            add(BOUNDS, "mute in " + side, x -> x.mute(0, side));
            add(BOUNDS, "span of " + side, x -> x.span(side, 0, true));
        }
    }

    /** "or two are one". */
    private static void pairs() {
        add(NUMBER, "shoot oneself", x -> x.shoot(0, 0, true));
        add(NUMBER, "teach oneself", x -> x.teach(0, 0, 0));
        add(NUMBER, "duel with oneself", x -> x.duel(2, 2));
        add(NUMBER, "best against oneself", x -> x.best(2, 2));
        add(NUMBER, "meet oneself", x -> x.meets(3, 3));
        add(NUMBER, "soonest to the other side", x -> x.soonest(0, 2));
    }

    /** "a number is none"; "another what". */
    private static void numbersAndWhats() {
        for (int n : new int[] {-1, 1001, Integer.MIN_VALUE, Integer.MAX_VALUE}) {
            add(NUMBER, "place in " + n, x -> x.place(0, n));
            add(NUMBER, "hours " + n, x -> x.hours(n));
            add(NUMBER, "reserves for " + n, x -> x.reserves(0, n));
            add(NUMBER, "company of " + n, x -> x.company(n));
            add(NUMBER, "spread by " + n, x -> x.spread(0, 0, n));
            add(NUMBER, "trial of " + n, x -> x.trial(n, 0));
            add(NUMBER, "span by " + n, x -> x.span(0, n, true));
            add(WHAT, "memory what " + n, x -> x.memory(0, n));
            add(WHAT, "soldier what " + n, x -> x.soldier(0, n));
            add(WHAT, "order what " + n, x -> x.order(0, n));
            add(WHAT, "rule what " + n, x -> x.rule(0, n));
            add(WHAT, "field what " + n, x -> x.field(0, n));
            add(WHAT, "trial what " + n, x -> x.trial(0, n));
            add(WHAT, "log what " + n, x -> x.log(0, n));
        }
        add(NUMBER, "hours 0", x -> x.hours(0));
        add(NUMBER, "hours 61", x -> x.hours(61));
        add(NUMBER, "reserves for 0", x -> x.reserves(0, 0));
        add(NUMBER, "reserves for 11", x -> x.reserves(0, 11));
        add(NUMBER, "company of 13", x -> x.company(13));
        add(NUMBER, "spread by 61", x -> x.spread(0, 0, 61));
        add(NUMBER, "trial of 61", x -> x.trial(61, 0));
        add(NUMBER, "span by 25", x -> x.span(0, 25, true));
        add(WHAT, "memory what 8", x -> x.memory(0, 8));
        add(WHAT, "soldier what 9", x -> x.soldier(0, 9));
        add(WHAT, "order what 4", x -> x.order(0, 4));
        add(WHAT, "rule what 4", x -> x.rule(0, 4));
        add(WHAT, "field what 3", x -> x.field(0, 3));
        add(WHAT, "trial what 4", x -> x.trial(0, 4));
        add(WHAT, "log what 5", x -> x.log(0, 5));
    }

    /** "Of several exceptions the one told first is thrown". */
    private static void toldFirst() {
        add(BOUNDS, "memory and what", x -> x.memory(4, 8));
        add(BOUNDS, "soldier and what", x -> x.soldier(5, 9));
        add(BOUNDS, "order and what", x -> x.order(2, 4));
        add(BOUNDS, "rule and what", x -> x.rule(5, 4));
        add(BOUNDS, "field and what", x -> x.field(2, 3));
        add(BOUNDS, "place and hours", x -> x.place(5, 1001));
        add(BOUNDS, "shoot nobody by oneself", x -> x.shoot(5, 5, true));
        add(BOUNDS, "shoot nobody of one side", x -> x.shoot(-1, 0, true));
        add(NUMBER, "shoot oneself who knows nothing", x -> x.shoot(4, 4, true));
        add(BOUNDS, "teach nobody by oneself", x -> x.teach(5, 5, 0));
        add(BOUNDS, "teach oneself no memory", x -> x.teach(0, 0, 4));
        add(NUMBER, "teach oneself what cannot be", x -> x.teach(4, 4, 1));
        add(BOUNDS, "gather nothing elsewhere", x -> x.gather(3, 2));
        add(BOUNDS, "reserves of no side for none", x -> x.reserves(2, 0));
        add(BOUNDS, "duel of nobody", x -> x.duel(5, 5));
        add(BOUNDS, "best of nobody", x -> x.best(-1, -1));
        add(BOUNDS, "spread of none by none", x -> x.spread(4, 0, 61));
        add(BOUNDS, "spread in none by none", x -> x.spread(0, 2, 61));
        add(BOUNDS, "soonest to nobody of any side", x -> x.soonest(0, 5));
        add(NUMBER, "trial of none and what", x -> x.trial(61, 4));
        add(NUMBER, "trial of none and what", x -> x.trial(-1, -1));
        add(BOUNDS, "span of no side by none", x -> x.span(2, 25, true));
        add(BOUNDS, "meets nobody oneself", x -> x.meets(5, 5));
        add(WHAT, "log of no row and what", x -> x.log(60, 5));
    }

    /** What the calls above rest on. */
    private static void scene() {
        ForgetWar x = Scenes.midst();
        int[] place = {1, 1, 1, 2, 1};
        int[] known = {7, 3, 4, 5, 0};
        for (int d = 0; d < 5; d++) {
            Check.same("place of " + d, x.soldier(d, 1), place[d]);
            Check.same("known to " + d, x.soldier(d, 3), known[d]);
        }
        Check.same("things", x.count(6), 2);
        Check.same("acts", x.count(12), 4);
        Check.same("what was learnt", x.count(10), 2);
        Check.same("seed", x.seed(99), 99);
    }

    /** "changes nothing but the TAPE, where it is used up, and fault(), where a text is read". */
    private static void usesTheTapeUp() {
        String[] texts = {"memory 1;soldier 0 1;", "", "", "", "\5", "\0\1\2\3\0\1\2\3\0", "", "\0\4"};
        Call[] calls = {x -> x.war(), x -> x.matches(8, -1), x -> x.matches(-1, 0), x -> x.matches(0, 0), x -> x.matches(1, -1),
            x -> x.matches(1, -1), x -> x.matches(1, -2), x -> x.matches(1, 1)};
        String[] due = {NUMBER, BOUNDS, BOUNDS, NUMBER, NUMBER, NUMBER, NUMBER, NUMBER};
        for (int k = 0; k < calls.length; k++) {
            ForgetWar x = Scenes.midst();
            Call call = calls[k];
            Check.tell(x, texts[k]);
            Check.alike("call " + k, Snapshot.answer(() -> call.on(x)), due[k]);
            Check.same("used up by call " + k, Snapshot.tape(x), 0);
            Check.same("fault behind call " + k, x.fault(), k == 0 ? 21 : 9);
            Check.alike("all behind call " + k, Snapshot.wearOut(x), Snapshot.wearOut(Scenes.midst()));
        }
        ForgetWar y = Scenes.midst();
        Check.alike("a law that is none", Snapshot.answer(() -> y.law()), NUMBER);
        Check.same("its fault", y.fault(), 0);
        Check.same("used up", Snapshot.tape(y), 0);
        Check.alike("all behind a wrong law", Snapshot.wearOut(y), Snapshot.wearOut(Scenes.midst()));
        Check.tell(y, "abc");
        Check.alike("no such place, and no memories", Snapshot.answer(() -> y.matches(8, 5)), BOUNDS);
        Check.same("used up", Snapshot.tape(y), 0);
        thirteenth();
    }

    private static void thirteenth() {
        ForgetWar x = Scenes.midst();
        ForgetWar y = Scenes.midst();
        for (int k = 3; k <= 12; k++) {
            Check.war(x, "");
            Check.war(y, "");
        }
        x.hours(1);
        y.hours(1);
        Check.badWar(x, "memory ^0");
        Check.tell(x, "memory 1");
        Check.alike("the 13th", Snapshot.answer(() -> x.war()), "UnsupportedOperationException");
        Check.same("its fault", x.fault(), ForgetWar.NONE);
        Check.same("used up", Snapshot.tape(x), 0);
        Check.alike("all behind the 13th", Snapshot.wearOut(x), Snapshot.wearOut(y));
    }

    /** What only asks, asked of one object and not of another one, leaves both alike. */
    private static void asksChangeNothing() {
        List<Call> asks = List.of(
            x -> x.falls(0, 0), x -> x.place(3, 1000), x -> x.rule(0, 3), x -> x.plan(0, true), x -> x.shots(0, 0, false),
            x -> x.outlasts(0, false, true), x -> x.reserves(0, 2), x -> x.company(3), x -> x.drill(true), x -> x.duel(0, 2),
            x -> x.best(2, 0), x -> x.spread(0, 0, 60), x -> x.soonest(2, 3), x -> x.mute(1, 0), x -> x.mute(0, 1), x -> x.amends(0),
            x -> x.agreed(), x -> x.treaty(-1, true), x -> x.trial(60, 0), x -> x.trial(60, 3), x -> x.span(0, 24, true),
            x -> x.span(1, 24, false), x -> x.meets(0, 3), x -> x.log(0, 0), x -> x.led(2, 0), x -> x.hitter(), x -> x.seed(99));
        for (Call ask : asks) {
            ForgetWar x = Scenes.midst();
            String first = Snapshot.answer(() -> ask.on(x));
            Check.alike("asked again", Snapshot.answer(() -> ask.on(x)), first);
            Check.same("fault", x.fault(), 9);
            Check.same("tape", Snapshot.tape(x), 3);
            Check.alike("all behind an ask", Snapshot.wearOut(x), Snapshot.wearOut(Scenes.midst()));
        }
        ForgetWar y = Scenes.midst();
        Check.tell(y, "\0\1");
        Check.same("matches answers", y.matches(1, -1), 4);
        Check.same("uses the tape up", Snapshot.tape(y), 0);
        Check.same("reads no text", y.fault(), 9);
        Check.alike("all behind matches", Snapshot.wearOut(y), Snapshot.wearOut(Scenes.midst()));
    }

    /** "false, and nothing happens"; "NONE, and none come". */
    private static void falseChangesNothing() {
        ForgetWar x = Scenes.midst();
        Check.no("more than there is", x.end(4));
        Check.no("below 0", x.end(-1));
        Check.same("tape", Snapshot.tape(x), 3);
        ForgetWar y = new ForgetWar();
        Check.war(y, "memory 1;soldier 0 1;soldier 1 1;knows 1 0");
        y.shoot(0, 1, false);
        String before = Snapshot.of(y);
        Check.no("no image", y.back());
        Check.alike("nothing happened", Snapshot.of(y), before);
        Check.same("remembered all the same", y.count(12), 1);
        Check.yes("undone", y.undo());
        String at = Snapshot.of(y);
        Check.no("none left", y.undo());
        Check.alike("nothing happened", Snapshot.of(y), at);
        Check.same("one", one(y.end(0)), 1);
    }
}
