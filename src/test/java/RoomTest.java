import com.sun.management.ThreadMXBean;
import java.lang.management.ManagementFactory;

/** The room: what an object takes, and that its calls (but for exceptions) make nothing more. */
final class RoomTest {
    private static final long MOST_BYTES = 100_000;
    private static final int ROUNDS = 10;

    public static void main(String[] args) {
        ThreadMXBean bean = (ThreadMXBean) ManagementFactory.getThreadMXBean();
        allCalls(midst());
        long before = bean.getCurrentThreadAllocatedBytes();
        ForgetWar x = new ForgetWar();
        long made = bean.getCurrentThreadAllocatedBytes() - before;
        Check.yes("a new object takes " + made + " bytes", made > 0 && made < MOST_BYTES);
        x = midst();
        before = bean.getCurrentThreadAllocatedBytes();
        for (int k = 0; k < ROUNDS; k++) {
            allCalls(x);
        }
        made = bean.getCurrentThreadAllocatedBytes() - before;
        Check.same("bytes made by calls", made, 0);
        Check.close("RoomTest");
    }

    private static ForgetWar midst() {
        ForgetWar x = Scenes.midst();
        x.end(0);
        return x;
    }

    /** Some 50 calls of which none throws, and all is as ahead of them. */
    private static void allCalls(ForgetWar x) {
        x.image();
        texts(x);
        x.back();
        acts(x);
        asks(x);
        searches(x);
        x.matches(1, ForgetWar.NONE);
    }

    /** By numbers, "plan 0 0" and "aim 5": a String would be made by the test. */
    private static void texts(ForgetWar x) {
        x.feed(0x706c616e, 0x20302030, 0, 0, 0);
        x.end(8);
        x.war();
        x.feed(0x61696d20, 0x35000000, 0, 0, 0);
        x.end(5);
        x.law();
    }

    private static void acts(ForgetWar x) {
        x.hours(2);
        x.undo();
        x.shoot(0, 2, true);
        x.undo();
        x.teach(1, 0, 2);
        x.undo();
        x.gather(4, 1);
        x.undo();
        x.read(2);
        x.undo();
        x.hours(1);
        x.undo();
        x.seed(1);
    }

    private static void asks(ForgetWar x) {
        x.memory(0, 2);
        x.soldier(0, 8);
        x.known(0, 0);
        x.place(0, 9);
        x.falls(0, 0);
        x.order(0, 3);
        x.rule(0, 3);
        x.field(0, 0);
        x.plan(0, true);
        x.shots(0, 0, false);
        x.outlasts(0, false, true);
        x.reserves(0, 2);
        x.company(3);
        x.drill(true);
        x.log(0, 0);
        x.led(0, 0);
        x.hitter();
        x.count(8);
        x.fault();
    }

    private static void searches(ForgetWar x) {
        x.duel(0, 2);
        x.best(0, 2);
        x.spread(0, 0, 60);
        x.soonest(0, 1);
        x.mute(0, 0);
        x.amends(0);
        x.agreed();
        x.treaty(3, true);
        x.trial(60, 1);
        x.span(0, 24, true);
        x.meets(0, 2);
    }
}
