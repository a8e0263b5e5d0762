/** Promises 2, 3 and, of the tape, 4, 5, 6. */
final class TapeTest {
    public static void main(String[] args) {
        feeds();
        ends();
        usesUp();
        Check.close("TapeTest");
    }

    private static void feeds() {
        ForgetWar x = new ForgetWar();
        for (int k = 1; k <= 20; k++) {
            Check.same("feed " + k, x.feed(-1, 0, 1, 2, 3), 20 * k);
        }
        Check.same("feed beyond 400", x.feed(0, 0, 0, 0, 0), ForgetWar.NONE);
        Check.yes("still 400", x.end(400));
        Check.yes("cut to 381", x.end(381));
        Check.same("feed to 401", x.feed(0, 0, 0, 0, 0), ForgetWar.NONE);
        Check.yes("still 381", x.end(381));
        Check.no("none came", x.end(382));
        Check.yes("cut to 380", x.end(380));
        Check.same("feed to 400", x.feed(0, 0, 0, 0, 0), 400);
    }

    private static void ends() {
        ForgetWar x = new ForgetWar();
        Check.yes("empty", x.end(0));
        Check.no("below 0", x.end(-1));
        Check.no("one of none", x.end(1));
        x.feed(0x6d656d6f, 0x72792039, 0, 0, 0); // memory 9
        Check.no("21 of 20", x.end(21));
        Check.no("least", x.end(Integer.MIN_VALUE));
        Check.yes("20 of 20", x.end(20));
        Check.yes("8", x.end(8));
        Check.no("20 of 8", x.end(20));
        Check.same("the highest byte first", x.war(), 1);
        Check.same("worth", x.memory(0, 0), 9);
    }

    private static void usesUp() {
        ForgetWar x = new ForgetWar();
        Check.same("ahead of any", x.fault(), ForgetWar.NONE);
        Check.tell(x, "memory");
        Check.noNumber("wrong", () -> x.war());
        Check.no("used up by a wrong war", x.end(1));
        Check.same("fault", x.fault(), 6);
        Check.tell(x, "read");
        Check.same("law", x.law(), 1);
        Check.no("used up by a law", x.end(1));
        Check.same("no fault", x.fault(), ForgetWar.NONE);
        Check.tell(x, "reed");
        Check.noNumber("wrong law", () -> x.law());
        Check.no("used up by a wrong law", x.end(1));
        Check.same("fault of the law", x.fault(), 0);
        Check.tell(x, "a");
        Check.outOfBounds("no such place", () -> x.matches(8, -1));
        Check.no("used up by a refused matches", x.end(1));
        Check.same("matches reads no text", x.fault(), 0);
        Check.same("matches of none", x.matches(0, -1), 1);
        Check.same("matches reads no text", x.fault(), 0);
    }
}
