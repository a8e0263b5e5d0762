/** Promises 38 to 45: the log, the seed, acts undone, the image, the counts. */
final class PastTest {
    private static final String WAR = "memory 3;memory 4 needs 0;memory 5;soldier 0 1;soldier 0 1;soldier 1 1;soldier 1 1;"
        + "knows 0 0 1;knows 1 0;knows 2 0 1 2;knows 3 0;book 3 0;book 2 0 1 2";

    public static void main(String[] args) {
        logs();
        longLogs();
        hitters();
        undone();
        twelve();
        undoneWhole();
        images();
        wholeImages();
        counts();
        Check.close("PastTest");
    }

    private static ForgetWar told() {
        ForgetWar x = new ForgetWar();
        Check.war(x, WAR);
        return x;
    }

    private static void logs() {
        ForgetWar x = told();
        Check.same("none", x.log(0, 0), -1);
        Check.same("none", x.led(0, 0), -1);
        x.shoot(0, 2, false);
        Check.law(x, "");
        x.hours(7);
        x.shoot(3, 0, true);
        int[][] due = {{7, 3, 0, 0, 1}, {0, 0, 2, 2, 0}};
        for (int ago = 0; ago < 2; ago++) {
            for (int what = 0; what < 5; what++) {
                Check.same("log " + ago + " " + what, x.log(ago, what), due[ago][what]);
            }
        }
        Check.same("beyond", x.log(2, 3), -1);
        Check.same("below", x.log(-1, 3), -1);
        Check.same("far", x.log(Integer.MAX_VALUE, 3), -1);
        Check.noElement("what 5", () -> x.log(0, 5));
        Check.noElement("what -1", () -> x.log(99, -1));
        Check.same("led", x.led(2, 2), 1);
        Check.same("led", x.led(0, 0), 0);
        Check.same("led to none", x.led(2, 0), -1);
        Check.outOfBounds("no soldier", () -> x.led(4, 0));
        Check.outOfBounds("no memory", () -> x.led(0, 3));
    }

    private static void longLogs() {
        ForgetWar x = told();
        x.shoot(0, 2, false);
        for (int k = 1; k <= 63; k++) {
            Check.same("rows", x.count(11), Math.min(k, 60));
            Check.same("led", x.led(2, 2), k <= 60 ? k - 1 : -1);
            x.shoot(k % 2, 3, false);
            Check.same("lost", x.count(9), k + 1);
            x.read(3);
            Check.same("by", x.log(0, 1), k % 2);
        }
        Check.same("the oldest of 60", x.log(59, 3), 0);
        Check.same("no 61st", x.log(60, 3), -1);
        Check.same("by turns", x.log(59, 1), 0);
        Check.same("the latest", x.led(3, 0), 0);
    }

    private static void hitters() {
        ForgetWar x = told();
        Check.same("none", x.hitter(), -1);
        x.shoot(2, 0, false);
        Check.same("one", x.hitter(), 2);
        x.shoot(1, 2, false);
        Check.same("of several the least", x.hitter(), 1);
        x.shoot(2, 0, false);
        Check.same("most", x.hitter(), 2);
        Check.same("asked again", x.hitter(), 2);
        for (int k = 0; k < 31; k++) {
            x.shoot(0, 3, false);
            x.read(3);
            x.shoot(1, 3, false);
            x.read(3);
        }
        Check.same("by the log alone", x.hitter(), 0);
        x.shoot(1, 3, false);
        Check.same("one more", x.hitter(), 1);
        Check.same("asked again", x.hitter(), 1);
    }

    private static void undone() {
        ForgetWar x = told();
        Check.no("none", x.undo());
        x.shoot(0, 2, false);
        x.hours(3);
        x.seed(1234);
        x.read(3);
        Check.same("acts", x.count(12), 3);
        Check.yes("read", x.undo());
        Check.same("the seed ahead of it", x.seed(1234), 1234);
        Check.yes("hours of one call", x.undo());
        Check.same("hour", x.count(5), 0);
        Check.same("the seed ahead of the hours", x.seed(1), 1);
        Check.same("what was lost", x.soldier(2, 3), 3);
        Check.yes("the shot", x.undo());
        Check.same("is known again", x.known(2, 2), 2);
        Check.same("field", x.count(6), 0);
        Check.same("log", x.count(11), 0);
        Check.same("lost", x.count(9), 0);
        Check.no("none is left", x.undo());
        Check.cannotBe("refused", () -> x.shoot(0, 1, true));
        Check.noNumber("refused", () -> x.hours(0));
        Check.no("a refused one is none", x.undo());
        x.read(3);
        Check.law(x, "");
        Check.no("a law: none are remembered", x.undo());
        x.read(3);
        Check.war(x, "");
        Check.no("a text: none are remembered", x.undo());
        x.read(3);
        Check.wrongWar(x, "what", 0);
        Check.tell(x, "what");
        Check.noNumber("wrong", () -> x.law());
        Check.tell(x, "any");
        Check.yes("a wrong text changes nothing", x.undo());
        Check.yes("the tape stays", x.end(3));
        Check.same("the fault stays", x.fault(), 0);
    }

    private static void twelve() {
        ForgetWar x = told();
        Check.law(x, "");
        for (int k = 1; k <= 15; k++) {
            x.hours(k);
            Check.same("acts", x.count(12), Math.min(k, 12));
        }
        int hour = 120;
        for (int k = 15; k > 3; k--) {
            Check.yes("undo " + k, x.undo());
            hour -= k;
            Check.same("hour", x.count(5), hour);
            Check.same("acts", x.count(12), k - 4);
        }
        Check.no("the 13th", x.undo());
        Check.same("hour", x.count(5), 6);
        for (int k = 1; k <= 12; k++) {
            x.read(2);
        }
        Check.same("12 again", x.count(12), 12);
    }

    private static void undoneWhole() {
        ForgetWar x = told();
        x.shoot(0, 2, false);
        x.shoot(2, 1, false);
        x.teach(1, 0, 0);
        Check.same("taught", x.count(10), 1);
        Check.yes("untaught", x.undo());
        Check.same("learnt", x.count(10), 0);
        Check.same("known", x.soldier(1, 3), 0);
        x.gather(1, 1);
        Check.same("gathered", x.count(6), 1);
        Check.yes("lies there again", x.undo());
        Check.same("where it lay", x.field(1, 0), 0);
        Check.same("not known", x.soldier(1, 4), 0);
        x.read(2);
        Check.yes("unread", x.undo());
        Check.same("learnt", x.count(10), 0);
        x.image();
        x.read(3);
        Check.yes("undo", x.undo());
        Check.yes("the image stays", x.back());
    }

    private static void images() {
        ForgetWar x = told();
        Check.no("none kept", x.back());
        x.shoot(0, 2, false);
        Check.no("none kept", x.back());
        Check.same("nothing happened", x.count(12), 1);
        x.seed(42);
        x.image();
        Check.same("keeping remembers all", x.count(12), 1);
        x.hours(9);
        x.seed(7);
        Check.war(x, "memory 9;soldier 0 2;order 0 0;plan 0 1;clash 0 1");
        Check.law(x, "aim 3");
        Check.wrongWar(x, "memory 0", 7);
        Check.tell(x, "ab");
        Check.yes("back", x.back());
        Check.yes("the tape stays", x.end(2));
        Check.same("the fault stays", x.fault(), 7);
        Check.same("seed", x.seed(42), 42);
        Check.same("none are remembered", x.count(12), 0);
        int[] due = {3, 4, 0, 1, -1, 0, 1, 6, 6, 1, 0, 1, 0};
        for (int what = 0; what < 13; what++) {
            Check.same("count " + what, x.count(what), due[what]);
        }
        Check.same("clash", x.memory(0, 7), 0);
        Check.same("plan", x.plan(0, false), 0);
        Check.same("aim", x.rule(0, 0), 50);
        x.read(2);
        Check.yes("back again", x.back());
        Check.same("the same", x.soldier(2, 3), 3);
        x.hours(1);
        x.image();
        x.hours(1);
        Check.yes("one image", x.back());
        Check.same("the latest", x.count(5), 1);
    }

    private static void wholeImages() {
        ForgetWar x = new ForgetWar();
        x.image();
        for (int k = 0; k < 12; k++) {
            Check.war(x, "memory 1");
        }
        Check.yes("to the beginning", x.back());
        Check.same("texts", Check.war(x, "memory 1"), 1);
        Check.law(x, "read;aim 5");
        x.image();
        Check.law(x, "");
        Check.yes("the law before", x.back());
        Check.same("lines", x.count(4), 2);
        Check.war(x, "soldier 0 1");
        Check.same("aim", x.rule(0, 0), 5);
    }

    private static void counts() {
        ForgetWar x = told();
        Check.war(x, "order 0 0");
        Check.law(x, "good 3;aim 100 if soldier < 1");
        x.hours(2);
        x.read(2);
        int[] due = {3, 4, 1, 2, 2, 2, 2, 9, 9, 2, 4, 2, 2};
        for (int what = 0; what < 13; what++) {
            Check.same("count " + what, x.count(what), due[what]);
        }
        Check.same("another what", x.count(13), -1);
        Check.same("another what", x.count(-1), -1);
        Check.same("another what", x.count(Integer.MAX_VALUE), -1);
    }
}
