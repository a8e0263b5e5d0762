/** Promises 14 to 19: hours, and acts by hand. */
final class ActTest {
    public static void main(String[] args) {
        goodShots();
        otherShots();
        refusedShots();
        teaches();
        gathers();
        reads();
        fieldForgets();
        hoursByHand();
        hoursByDraws();
        hoursRead();
        lawMoves();
        Check.close("ActTest");
    }

    private static void goodShots() {
        ForgetWar x = Check.told("memory 1;memory 1;memory 1 needs 1;memory 1 needs 0;memory 1 needs 3;memory 1 needs 4;soldier 0 1;soldier 1 1;knows 1 5 4 3 2 1 0");
        Check.same("by whose loss most fall", x.shoot(0, 1, true), 0);
        Check.same("then", x.shoot(0, 1, true), 1);
        Check.same("none usable: the least", x.shoot(0, 1, true), 2);
        Check.same("order stays", x.known(1, 0), 5);
        Check.same("those behind come nearer", x.known(1, 2), 3);
        Check.same("lies there", x.field(0, 0), 0);
        Check.same("where", x.field(0, 1), 1);
        Check.same("whose", x.field(2, 2), 1);
        Check.same("lost", x.count(9), 3);
        ForgetWar y = Check.told("memory 1;memory 1 needs 0;memory 1;memory 1 needs 2;soldier 0 1;soldier 1 1;knows 1 3 2 1 0");
        Check.same("of several the least", y.shoot(0, 1, true), 0);
        ForgetWar z = Check.told("memory 1;memory 1 needs 0;memory 1;soldier 0 1;soldier 1 1;knows 1 1 2");
        Check.same("only the usable one falls", z.shoot(0, 1, true), 2);
    }

    private static void otherShots() {
        ForgetWar x = Check.told("memory 1;memory 1;memory 1;soldier 0 1 2;soldier 1 1 3;knows 1 2 0 1");
        Check.same("the latest", x.shoot(0, 1, false), 1);
        Check.same("the next", x.shoot(0, 1, false), 0);
        Check.same("the first", x.shoot(0, 1, false), 2);
        Check.cannotBe("knows nothing", () -> x.shoot(0, 1, false));
        Check.same("acts", x.count(12), 3);
    }

    private static void refusedShots() {
        ForgetWar x = Check.told("memory 1;soldier 0 1;soldier 1 1 2;soldier 0 1;soldier 1 2;knows 0 0;knows 1 0;knows 2 0;knows 3 0");
        Check.outOfBounds("no soldier", () -> x.shoot(4, 4, true));
        Check.outOfBounds("no other", () -> x.shoot(0, -1, true));
        Check.noNumber("both are one", () -> x.shoot(0, 0, true));
        Check.cannotBe("one side", () -> x.shoot(0, 2, true));
        Check.cannotBe("not in one place", () -> x.shoot(0, 3, true));
        Check.same("nothing happened", x.count(9) + x.count(12) + x.count(6) + x.count(11), 0);
        Check.same("by hand", x.shoot(0, 1, true), 0);
        Check.same("who has nothing may shoot", x.shoot(1, 0, true), 0);
    }

    private static void teaches() {
        ForgetWar x = Check.told("memory 1;memory 1 needs 0;memory 1;soldier 0 1;soldier 0 1;soldier 1 1;soldier 0 2;knows 0 1 0;knows 2 0;knows 3 0 2");
        Check.outOfBounds("no soldier", () -> x.teach(4, 0, 0));
        Check.outOfBounds("no teacher", () -> x.teach(0, 4, 0));
        Check.outOfBounds("no memory", () -> x.teach(0, 0, 3));
        Check.noNumber("both are one", () -> x.teach(0, 0, 0));
        Check.cannotBe("its needs are not usable", () -> x.teach(1, 0, 1));
        Check.cannotBe("not usable to the teacher", () -> x.teach(1, 0, 2));
        Check.cannotBe("of the other side", () -> x.teach(1, 2, 0));
        Check.cannotBe("not in the place", () -> x.teach(1, 3, 0));
        Check.cannotBe("known already", () -> x.teach(0, 1, 0));
        Check.same("taught", x.teach(1, 0, 0), 1);
        Check.same("then the next", x.teach(1, 0, 1), 2);
        Check.same("the latest", x.known(1, 1), 1);
        Check.cannotBe("known already", () -> x.teach(1, 0, 1));
        Check.same("learnt", x.count(10), 2);
        Check.same("acts", x.count(12), 2);
        ForgetWar y = Check.told("memory 1;memory 1;memory 1;memory 1;memory 1;memory 1;memory 1;memory 1;memory 1;memory 1;memory 1;memory 1;memory 1;soldier 0 1");
        Check.war(y, "soldier 0 1;knows 0 0 1 2 3 4 5 6 7 8 9 10 12;knows 1 11 12");
        Check.cannotBe("a 13th", () -> y.teach(0, 1, 11));
        Check.cannotBe("not usable to oneself", () -> y.teach(1, 0, 11));
        Check.same("the teacher knows 12", y.teach(1, 0, 0), 3);
    }

    private static void gathers() {
        ForgetWar x = Check.told("memory 1;memory 1 needs 0;soldier 0 1 2;soldier 1 1 3;soldier 1 1;knows 1 0 1;knows 0 0");
        x.shoot(0, 1, false);
        x.shoot(0, 1, false);
        Check.outOfBounds("no soldier", () -> x.gather(3, 0));
        Check.outOfBounds("no thing", () -> x.gather(0, 2));
        Check.outOfBounds("below", () -> x.gather(0, -1));
        Check.cannotBe("its needs are not usable", () -> x.gather(2, 0));
        Check.cannotBe("known already", () -> x.gather(0, 1));
        Check.same("of the other side", x.gather(0, 0), 1);
        Check.same("gone", x.count(6), 1);
        Check.same("the one behind comes nearer", x.field(0, 0), 0);
        Check.same("learnt", x.count(10), 1);
        Check.same("the latest", x.known(0, 1), 1);
        x.hours(1);
        Check.cannotBe("not at the place", () -> x.gather(1, 0));
        Check.same("by who stays", x.gather(2, 0), 0);
        ForgetWar y = Check.told("memory 1;memory 1;memory 1;soldier 0 1;soldier 1 1;soldier 1 1;knows 1 2;knows 2 0 1 2");
        y.shoot(0, 2, false);
        y.shoot(0, 2, false);
        y.shoot(0, 1, false);
        Check.same("the middle one", y.gather(0, 1), 1);
        Check.same("ahead of it", y.field(0, 0) * 10 + y.field(0, 2), 22);
        Check.same("behind it", y.field(1, 0) * 10 + y.field(1, 2), 21);
        Check.same("the last", y.gather(0, 1), 2);
        Check.cannotBe("known already", () -> y.gather(0, 0));
        Check.outOfBounds("nothing lies there", () -> x.gather(2, 0));
        Check.outOfBounds("nothing lies there", () -> x.field(0, 0));
    }

    private static void reads() {
        ForgetWar x = Check.told("memory 1;memory 1 needs 0;memory 1 needs 1;memory 1;soldier 0 1;soldier 0 1;soldier 1 1;soldier 0 2;book 0 2 0 1;knows 1 3;book 3 3");
        Check.law(x, "");
        Check.outOfBounds("no soldier", () -> x.read(4));
        Check.cannotBe("no book", () -> x.read(1));
        Check.same("whatever the law", x.read(0), 6);
        Check.same("the reader, too", x.soldier(0, 3), 7);
        Check.same("by numbers", x.known(1, 1), 0);
        Check.same("by numbers", x.known(1, 3), 2);
        Check.same("not the other side", x.soldier(2, 3), 0);
        Check.same("not elsewhere", x.soldier(3, 3), 0);
        Check.same("learnt", x.count(10), 6);
        Check.same("nothing new", x.read(0), 0);
        Check.same("an act all the same", x.count(12), 2);
        Check.same("alone", x.read(3), 1);
        ForgetWar y = Check.told("memory 1;memory 1 needs 0;memory 1;soldier 0 1;book 0 1 2");
        Check.same("just what can be", y.read(0), 1);
        Check.same("2", y.known(0, 0), 2);
    }

    private static void fieldForgets() {
        ForgetWar y = Check.told("memory 1;memory 1;soldier 0 1;soldier 1 1;soldier 1 1;knows 0 0;knows 1 1 0;knows 2 0;book 2 0");
        y.shoot(0, 1, false);
        y.shoot(0, 1, false);
        for (int k = 2; k < 40; k++) {
            y.read(2);
            Check.same("shot " + k, y.shoot(0, 1, true), 0);
            Check.same("things", y.count(6), k + 1);
        }
        Check.same("the second", y.field(1, 0), 1);
        y.read(2);
        y.shoot(0, 1, true);
        Check.same("40 at most", y.count(6), 40);
        Check.same("the oldest is gone", y.field(0, 0), 1);
        Check.same("how often", y.memory(0, 6), 39);
        Check.outOfBounds("the 41st", () -> y.field(40, 0));
        Check.outOfBounds("below", () -> y.field(-1, 5));
        Check.noElement("what 3", () -> y.field(39, 3));
        Check.noElement("what -1", () -> y.field(0, -1));
        Check.same("whose", y.field(39, 2), 1);
        Check.same("where", y.field(39, 1), 1);
        y.read(2);
        y.shoot(0, 1, true);
        Check.same("gone for good", y.memory(1, 6), 0);
        Check.same("lost all the same", y.count(9), 42);
    }

    private static void hoursByHand() {
        ForgetWar x = Check.told("memory 1;memory 1 needs 0;soldier 0 1 2;soldier 1 2 1 2;knows 0 0 1;knows 1 0");
        Check.noNumber("0", () -> x.hours(0));
        Check.noNumber("61", () -> x.hours(61));
        Check.noNumber("-1", () -> x.hours(-1));
        Check.law(x, "aim 100;good 100 if side < 1");
        Check.same("they pass by", x.hours(1), 0);
        Check.same("hour", x.count(5), 1);
        Check.same("nothing is drawn", x.seed(1), 1);
        Check.same("and again", x.hours(1), 0);
        Check.same("they meet: only the first shoots, the other has nothing then", x.hours(1), 1);
        ForgetWar y = Check.told("memory 1;memory 1 needs 0;soldier 0 1;soldier 1 1;knows 0 0 1;knows 1 0");
        Check.law(y, "aim 100;good 100 if side < 1");
        Check.same("only the first shoots", y.hours(1), 1);
        Check.same("the other has nothing usable", y.soldier(1, 2), 0);
        Check.same("the row's hour", y.log(0, 0), 0);
        Check.same("good", y.log(0, 4), 1);
        Check.same("nobody knows anything any more", y.hours(60), 0);
        Check.same("hour", y.count(5), 61);
    }

    private static int drawn(int[] seed) {
        seed[0] = seed[0] * 1103515245 + 12345;
        return (int) ((seed[0] & 0xffffffffL) / 65536 % 32768) % 100;
    }

    /** Aim 50 and good 20: the draws are told beside the object. */
    private static void hoursByDraws() {
        for (int from = -20; from < 200; from++) {
            ForgetWar x = Check.told("memory 1;memory 1;memory 1 needs 0;soldier 0 1;soldier 1 1;knows 0 1;knows 1 0 2 1");
            Check.same("seed", x.seed(from * 7919), 1);
            int[] seed = {from * 7919};
            int lost = x.hours(1);
            boolean hit = drawn(seed) < 50;
            boolean good = hit && drawn(seed) < 20;
            boolean back = drawn(seed) < 50;
            boolean backGood = back && drawn(seed) < 20;
            Check.same("lost", lost, (hit ? 1 : 0) + (back ? 1 : 0));
            Check.same("which", x.soldier(1, 3), hit ? good ? 6 : 5 : 7);
            Check.same("seed behind", x.seed(0), seed[0]);
            Check.same("the other's", x.log(0, 4), back ? backGood ? 1 : 0 : hit ? good ? 1 : 0 : -1);
        }
    }

    private static void hoursRead() {
        ForgetWar x = Check.told("memory 1;memory 1 needs 0;memory 1;soldier 0 1 2;soldier 0 2;soldier 0 3 2;book 0 0;book 1 1;book 2 2");
        Check.law(x, "read if soldier < 2 or hour > 0");
        Check.same("nobody shoots", x.hours(1), 0);
        Check.same("learnt by numbers", x.count(10), 6);
        Check.same("all know 0 and 1", x.soldier(1, 3), 3);
        Check.same("hours are no acts of their own", x.count(12), 1);
        x.hours(1);
        Check.same("each alone", x.soldier(2, 3), 7);
        Check.same("soldier 1 hears no 2", x.soldier(1, 3), 3);
        x.hours(1);
        Check.same("together again", x.soldier(1, 3), 7);
        ForgetWar y = Check.told("memory 1;soldier 0 1;book 0 0");
        Check.law(y, "");
        y.hours(5);
        Check.same("nobody reads", y.count(10), 0);
        ForgetWar z = Check.told("memory 1;soldier 0 1;book 0 0");
        z.hours(1);
        Check.same("without a law all read", z.count(10), 1);
    }

    /** The law is asked when one's turn comes. */
    private static void lawMoves() {
        ForgetWar x = Check.told("memory 1;memory 1;soldier 0 1;soldier 1 1;soldier 0 1;knows 0 0;knows 1 1 0;knows 2 0");
        Check.law(x, "aim 100 if known < 2");
        Check.same("the first makes the second able", x.hours(1), 3);
        Check.same("by 0, by 1, by 2", x.log(2, 1) * 100 + x.log(1, 1) * 10 + x.log(0, 1), 12);
        Check.same("hour of the rows", x.log(2, 0), 0);
        ForgetWar y = Check.told("memory 1;memory 1;soldier 0 1;soldier 1 1;knows 0 0;knows 1 1 0");
        Check.law(y, "aim 100 if hour > 1 and side < 1");
        Check.same("hour 0 and 1", y.hours(2), 0);
        Check.same("hour 2", y.hours(1), 1);
        Check.same("as it was", y.log(0, 0), 2);
    }
}
