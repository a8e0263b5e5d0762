/** The edges that the document's words on SHOTS, LEARNING, HOURS and ACTS name, in its order: a method a sentence. */
final class HourEdgeTest {
    /** One SOLDIER of each SIDE at 1, of whom the first alone hits. */
    private static final String TWO = "memory 1;memory 1;memory 1 needs 1;memory 1;soldier 0 1;soldier 1 1;knows 0 0;";

    public static void main(String[] args) {
        ofSeveralTheLeast();
        thatOneTooIfItWas();
        elseTheLatest();
        thoseBehindComeNearer();
        fieldOfForty();
        fieldWhenGathered();
        learntIfFewerThanTwelve();
        learntIfNeedsAreUsable();
        behindTheLastTheFirst();
        whoHasSomethingUsable();
        whoKnowsMost();
        nobodyNothingIsDrawn();
        belowAim();
        belowGood();
        drawsGoRound();
        aimAsItIsThen();
        eachByNumbers();
        readersAndHearers();
        allThatCanBe();
        hoursOneToSixty();
        lostByHours();
        shotsByHand();
        taughtByAnother();
        gathered();
        readAloud();
        alsoIfNothingChanges();
        latestSixtyShots();
        hourAsItWas();
        fiveHundredCalls();
        Check.close("HourEdgeTest");
    }

    /** A SHOT: "of several the least". */
    private static void ofSeveralTheLeast() {
        ForgetWar x = Check.told(TWO + "memory 1 needs 0;knows 1 2 1 4 0 3");
        int[] due = {0, 1, 3, 2, 4};
        for (int memory : due) {
            Check.same("the least of those by which most fall", x.shoot(0, 1, true), memory);
        }
    }

    /** "that one, too, if it was": who is USABLE counts itself, who is not counts for 0. */
    private static void thatOneTooIfItWas() {
        ForgetWar x = Check.told(TWO + "knows 1 2 3");
        Check.same("usable 3 rather than 2", x.shoot(0, 1, true), 3);
        Check.same("then what is not usable", x.shoot(0, 1, true), 2);
        ForgetWar y = Check.told("memory 1;memory 1 needs 0;memory 1 needs 0;soldier 0 1;soldier 1 1;knows 1 2 1");
        Check.same("none usable: the least known", y.shoot(0, 1, true), 1);
    }

    /** "else the latest that one KNOWS". */
    private static void elseTheLatest() {
        ForgetWar x = Check.told(TWO + "knows 1 3 1 2 0");
        int[] due = {0, 2, 1, 3};
        for (int memory : due) {
            Check.same("the latest", x.shoot(0, 1, false), memory);
        }
        Check.cannotBe("none is left", () -> x.shoot(0, 1, false));
    }

    /** "of what one KNOWS those behind it come nearer". */
    private static void thoseBehindComeNearer() {
        ForgetWar x = Check.told(TWO + "knows 1 3 1 0 2");
        Check.same("the second", x.shoot(0, 1, true), 1);
        int[] due = {3, 0, 2, -1};
        for (int k = 0; k < 4; k++) {
            Check.same("known " + k, x.known(1, k), due[k]);
        }
        Check.same("of two equal ones the least", x.shoot(0, 1, true), 0);
        Check.same("the first", x.shoot(0, 1, true), 3);
        Check.same("nearest", x.known(1, 0), 2);
        Check.same("how many", x.soldier(1, 2), 1);
    }

    /** Those who stand at 1, at 2 and at 3, one of each SIDE, and whom the others of SIDE 0 can hit. */
    private static ForgetWar pairs() {
        return Check.told("memory 1;memory 1;memory 1;memory 1;soldier 0 1;soldier 1 1;soldier 0 2;soldier 1 2;soldier 0 3;soldier 1 3;"
            + "knows 1 0 1 2;knows 3 0 1 2;knows 5 0 1 2;book 5 0");
    }

    private static void thingIs(ForgetWar x, int k, int memory, int place, int whose) {
        Check.same("memory of thing " + k, x.field(k, 0), memory);
        Check.same("place of thing " + k, x.field(k, 1), place);
        Check.same("owner of thing " + k, x.field(k, 2), whose);
    }

    /** "FIELD: what was LOST, one behind another (at most 40; the oldest is forgotten for good)". */
    private static void fieldOfForty() {
        ForgetWar x = pairs();
        x.shoot(0, 1, false);
        x.shoot(2, 3, false);
        x.shoot(4, 5, false);
        x.shoot(4, 5, false);
        x.shoot(4, 5, false);
        for (int k = 5; k < 40; k++) {
            Check.same("things", x.count(6), k);
            x.read(5);
            x.shoot(4, 5, false);
        }
        Check.same("40", x.count(6), 40);
        thingIs(x, 0, 2, 1, 1);
        x.read(5);
        x.shoot(4, 5, false);
        Check.same("still 40", x.count(6), 40);
        thingIs(x, 0, 2, 2, 3);
        thingIs(x, 1, 2, 3, 5);
        thingIs(x, 2, 1, 3, 5);
        thingIs(x, 39, 0, 3, 5);
        Check.outOfBounds("no 41st", () -> x.field(40, 0));
        Check.same("lost", x.count(9), 41);
        x.shoot(2, 3, true);
        Check.same("40 by another one", x.count(6), 40);
        thingIs(x, 0, 2, 3, 5);
        thingIs(x, 39, 0, 2, 3);
        Check.same("in the field", x.memory(2, 6), 1);
        Check.same("in the field", x.memory(3, 6), 0);
        Check.yes("undone", x.undo());
        thingIs(x, 0, 2, 2, 3);
        thingIs(x, 39, 0, 3, 5);
    }

    /** "LEARNT, it is gone from there": those behind it come nearer with their PLACES and whose they were. */
    private static void fieldWhenGathered() {
        ForgetWar x = pairs();
        x.shoot(0, 1, false);
        x.shoot(2, 3, false);
        x.shoot(4, 5, false);
        x.shoot(0, 1, false);
        Check.same("the middle one", x.gather(2, 1), 2);
        Check.same("three are left", x.count(6), 3);
        thingIs(x, 0, 2, 1, 1);
        thingIs(x, 1, 2, 3, 5);
        thingIs(x, 2, 1, 1, 1);
        Check.same("the last", x.gather(0, 2), 1);
        Check.same("the first", x.gather(0, 0), 2);
        thingIs(x, 0, 2, 3, 5);
        Check.same("the only one", x.gather(4, 0), 2);
        Check.same("empty", x.count(6), 0);
        Check.outOfBounds("nothing lies there", () -> x.gather(4, 0));
        x.shoot(2, 3, false);
        thingIs(x, 0, 1, 2, 3);
    }

    /** "LEARNT: .. if one KNOWS fewer than 12": by whatever one would learn. */
    private static void learntIfFewerThanTwelve() {
        ForgetWar x = Check.told(Check.times("memory 1", 14));
        Check.war(x, "soldier 0 1;soldier 0 1;soldier 1 1;knows 0 0 1 2 3 4 5 6 7 8 9 10;knows 1 11 12 13;knows 2 13;book 0 13 12");
        x.shoot(0, 2, false);
        Check.same("a 12th by teaching", x.teach(0, 1, 11), 12);
        Check.cannotBe("a 13th by teaching", () -> x.teach(0, 1, 12));
        Check.cannotBe("a 13th by gathering", () -> x.gather(0, 0));
        Check.same("a 13th by reading", x.read(0), 0);
        x.hours(1);
        Check.same("a 13th by hours", x.soldier(0, 3), (1 << 12) - 1);
        x.undo();
        x.undo();
        x.undo();
        Check.same("a 12th by gathering", x.gather(0, 0), 13);
        Check.same("12", x.soldier(0, 2), 12);
        x.undo();
        Check.same("a 12th by reading", x.read(0), 1);
        Check.same("by numbers", x.known(0, 11), 12);
        x.undo();
        x.hours(1);
        Check.same("a 12th by hours", x.known(0, 11), 12);
    }

    /** "a MEMORY that one does not know, of which all NEEDS are USABLE". */
    private static void learntIfNeedsAreUsable() {
        String war = "memory 1;memory 1;memory 1 needs 0 1;memory 1 needs 2;soldier 0 1;soldier 0 1;knows 0 0 1 2 3;";
        ForgetWar x = Check.told(war + "knows 1 0");
        Check.cannotBe("one of two needs", () -> x.teach(1, 0, 2));
        Check.same("the other need", x.teach(1, 0, 1), 2);
        Check.same("both", x.teach(1, 0, 2), 3);
        Check.cannotBe("known", () -> x.teach(1, 0, 2));
        ForgetWar y = Check.told(war + "knows 1 2 0");
        Check.cannotBe("the need is known, but not usable", () -> y.teach(1, 0, 3));
        Check.cannotBe("known, but not usable", () -> y.teach(1, 0, 2));
        Check.same("what bears it", y.teach(1, 0, 1), 3);
        Check.same("now it is", y.teach(1, 0, 3), 4);
    }

    /** "each SOLDIER is at the next PLACE of the ROUTE (behind the last the first)". */
    private static void behindTheLastTheFirst() {
        ForgetWar x = Check.told("soldier 0 7;soldier 0 0 1;soldier 1 3 4 5;soldier 0 6 5 4 3;soldier 1 1 1 2 2 3;soldier 0 5 4 3 2 1 0");
        int[][] routes = {{7}, {0, 1}, {3, 4, 5}, {6, 5, 4, 3}, {1, 1, 2, 2, 3}, {5, 4, 3, 2, 1, 0}};
        for (int hour = 0; hour <= 13; hour++) {
            for (int d = 0; d < 6; d++) {
                int size = routes[d].length;
                Check.same("hour " + hour + " of " + d, x.soldier(d, 1), routes[d][hour % size]);
                Check.same("ahead of " + d, x.place(d, 1000), routes[d][(hour + 1000) % size]);
            }
            x.hours(1);
        }
    }

    /** "Each, by numbers, who has something USABLE". */
    private static void whoHasSomethingUsable() {
        ForgetWar x = Check.told("memory 1;memory 1 needs 0;memory 1;soldier 0 1;soldier 1 1;knows 0 1;knows 1 2");
        Check.law(x, "aim 100");
        Check.same("known, but not usable: at nobody", x.rule(0, 3), ForgetWar.NONE);
        Check.same("only the other one", x.hours(1), 1);
        Check.same("by the other one", x.log(0, 1), 1);
        Check.same("whom", x.log(0, 2), 0);
        Check.same("what is not usable can be lost", x.log(0, 3), 1);
    }

    /** "at one of the other SIDE in the PLACE who KNOWS most (1 at least; of several the least number ..)". */
    private static void whoKnowsMost() {
        String war = "memory 1;memory 1 needs 0;memory 1;soldier 0 1;soldier 1 1;soldier 1 1;soldier 1 1;soldier 0 1;soldier 1 2;knows 0 0;";
        ForgetWar x = Check.told(war + "knows 4 0 1 2;knows 5 0 1 2");
        Check.same("nobody there knows", x.rule(0, 3), ForgetWar.NONE);
        Check.war(x, "knows 3 1");
        Check.same("one, not usable", x.rule(0, 3), 3);
        Check.war(x, "knows 2 2");
        Check.same("of several the least", x.rule(0, 3), 2);
        Check.war(x, "knows 3 2");
        Check.same("most known, not most usable", x.rule(0, 3), 3);
        Check.war(x, "knows 1 1 0");
        Check.same("of several the least", x.rule(0, 3), 1);
        Check.same("of the other side", x.rule(1, 3), 4);
        Check.same("alone at 2", x.rule(5, 3), ForgetWar.NONE);
    }

    /** "nobody: nothing is drawn". */
    private static void nobodyNothingIsDrawn() {
        String[] wars = {
            "memory 1;soldier 0 1;knows 0 0", "memory 1;soldier 0 1;soldier 1 2;knows 0 0;knows 1 0",
            "memory 1;soldier 0 1;soldier 1 1;knows 0 0", "memory 1;soldier 0 1;soldier 0 1;knows 0 0;knows 1 0",
            "memory 1;memory 1 needs 0;soldier 0 1;soldier 1 1;knows 0 1;knows 1 1", "soldier 0 1;soldier 1 1"};
        for (String war : wars) {
            ForgetWar x = Check.told(war);
            Check.same("nobody is hit", x.hours(60), 0);
            Check.same("nothing is drawn", x.seed(1), 1);
        }
    }

    private static long next(long seed) {
        return seed * 1103515245L + 12345L & 0xffffffffL;
    }

    private static int draw(long seed) {
        return (int) (seed / 65536L % 32768L % 100L);
    }

    /** "DRAW modulo 100 below AIM: hit". */
    private static void belowAim() {
        for (int from = 0; from < 150; from++) {
            long drawn = next(from);
            int d = draw(drawn);
            ForgetWar x = Check.told(TWO + "knows 1 0 1");
            Check.law(x, "aim " + d + " if side < 1");
            x.seed(from);
            Check.same("not below " + d, x.hours(1), 0);
            Check.same("drawn by each once", x.seed(from), (int) next(drawn));
            Check.law(x, "aim " + (d + 1) + " if side < 1");
            Check.same("below", x.hours(1), 1);
            Check.same("drawn twice and once", x.seed(0), (int) next(next(drawn)));
        }
        ForgetWar never = Check.told(TWO + "knows 1 0 1");
        Check.law(never, "good 100");
        Check.same("0: never", never.hours(60), 0);
    }

    /** "then DRAW modulo 100 below GOOD: a good SHOT, else another one". */
    private static void belowGood() {
        for (int from = 0; from < 150; from++) {
            int d = draw(next(next(from)));
            for (int more = 0; more < 2; more++) {
                ForgetWar x = Check.told(TWO + "knows 1 0 1 2");
                Check.law(x, "aim 100 if side < 1;good " + (d + more));
                x.seed(from);
                x.hours(1);
                Check.same("good", x.log(0, 4), more);
                Check.same("which", x.log(0, 3), more == 1 ? 1 : 2);
            }
        }
    }

    /** "as an int that goes round; bits 16 to 30 (SEED 1 at first)". */
    private static void drawsGoRound() {
        int[] seeds = {0, -1, Integer.MAX_VALUE, Integer.MIN_VALUE, 0x7fff0000, 0x80000000, 65535, 65536, -65536};
        for (int seed : seeds) {
            ForgetWar x = Check.told(TWO + "knows 1 0");
            Check.law(x, "");
            Check.same("1 at first", x.seed(seed), 1);
            Check.same("as it is told", x.seed(seed), seed);
            long due = seed & 0xffffffffL;
            for (int k = 0; k < 20; k++) {
                x.hours(1);
                due = next(next(due));
                Check.same("draw " + k + " from " + seed, x.seed((int) due), (int) due);
            }
        }
        ForgetWar y = Check.told(TWO + "knows 1 0");
        Check.law(y, "aim " + draw(next(0x80000000L)) + " if side < 1");
        y.seed(Integer.MIN_VALUE);
        Check.same("bit 31 is none of it", y.hours(1), 0);
    }

    /** "AIM (as it is then)": by what the shots before have changed in this HOUR. */
    private static void aimAsItIsThen() {
        ForgetWar x = Check.told("memory 1;memory 1;soldier 0 1;soldier 1 1;soldier 0 1;knows 0 0;knows 1 0 1;knows 2 0");
        Check.law(x, "aim 100 if side < 1;aim 100 if known < 2");
        Check.same("hit, hits back, is hit again", x.hours(1), 3);
        int[] by = {2, 1, 0};
        for (int ago = 0; ago < 3; ago++) {
            Check.same("by " + ago, x.log(ago, 1), by[ago]);
        }
        ForgetWar y = Check.told("memory 1;soldier 0 1;soldier 1 1;knows 0 0;knows 1 0");
        Check.law(y, "aim 100");
        Check.same("who has nothing left shoots no more", y.hours(1), 1);
        Check.same("by 0", y.log(0, 1), 0);
        ForgetWar z = Check.told("memory 1;soldier 0 1;soldier 0 1;soldier 1 1;knows 0 0;knows 1 0;knows 2 0");
        Check.law(z, "aim 100 if side < 1");
        Check.same("nobody is left for the second", z.hours(1), 1);
    }

    /** "Each, by numbers .. shoots": all go on first, all shoot then, all read at last. */
    private static void eachByNumbers() {
        ForgetWar x = Check.told("memory 1;memory 1;soldier 0 1;soldier 1 2 1;knows 0 0;knows 1 0;book 0 1;book 1 1");
        Check.law(x, "aim 100 if hour < 1;read");
        Check.same("they have gone on ahead of it", x.hours(1), 1);
        Check.same("where", x.field(0, 1), 1);
        Check.same("read behind it", x.soldier(1, 3), 2);
        Check.same("read behind it", x.soldier(0, 3), 3);
        Check.same("learnt", x.count(10), 2);
    }

    /** "each one of the SIDE there, by numbers (the reader, too)". */
    private static void readersAndHearers() {
        ForgetWar x = Check.told("memory 1;soldier 0 1;soldier 0 1;soldier 0 2;soldier 1 1;soldier 0 1;book 1 0");
        x.hours(1);
        int[] due = {1, 1, 0, 0, 1};
        for (int d = 0; d < 5; d++) {
            Check.same("who heard " + d, x.soldier(d, 3), due[d]);
        }
        Check.same("learnt", x.count(10), 3);
        ForgetWar y = Check.told("memory 1;soldier 0 1 2;soldier 0 1;book 0 0");
        y.hours(1);
        Check.same("at the new place alone", y.soldier(1, 3), 0);
        Check.same("oneself", y.soldier(0, 3), 1);
        y.hours(1);
        Check.same("together again", y.soldier(1, 3), 1);
    }

    /** "LEARNS all of the BOOK, by numbers, that can be". */
    private static void allThatCanBe() {
        ForgetWar x = Check.told("memory 1;memory 1 needs 0;memory 1 needs 1;memory 1;memory 1 needs 3;soldier 0 1;book 0 4 2 1 0");
        Check.same("three", x.read(0), 3);
        Check.same("without 3 no 4", x.soldier(0, 3), 7);
        for (int k = 0; k < 3; k++) {
            Check.same("by numbers", x.known(0, k), k);
        }
        Check.war(x, "knows 0 3");
        Check.same("now 4", x.read(0), 1);
        Check.same("then none", x.read(0), 0);
    }

    /** "So many HOURS more (1 to 60)"; "HOUR is 1 more". */
    private static void hoursOneToSixty() {
        ForgetWar x = new ForgetWar();
        Check.noNumber("0", () -> x.hours(0));
        Check.noNumber("-1", () -> x.hours(-1));
        Check.noNumber("61", () -> x.hours(61));
        Check.noNumber("least", () -> x.hours(Integer.MIN_VALUE));
        Check.noNumber("most", () -> x.hours(Integer.MAX_VALUE));
        Check.same("none went by", x.count(5) + x.count(12), 0);
        Check.same("1", x.hours(1), 0);
        Check.same("hour 1", x.count(5), 1);
        Check.same("60", x.hours(60), 0);
        Check.same("hour 61", x.count(5), 61);
    }

    /** "how many MEMORIES were LOST": by these HOURS alone. */
    private static void lostByHours() {
        ForgetWar x = Check.told(TWO + "knows 1 0 1 2 3;knows 0 1 2");
        Check.law(x, "aim 100 if side < 1");
        x.shoot(1, 0, false);
        Check.same("one an hour", x.hours(1), 1);
        Check.same("two", x.hours(2), 2);
        Check.same("the last", x.hours(60), 1);
        Check.same("no more", x.hours(60), 0);
        Check.same("lost so far", x.count(9), 5);
    }

    /** "a SHOT by hand (of SOLDIERS of unlike SIDES in one PLACE)"; "or the other KNOWS nothing". */
    private static void shotsByHand() {
        ForgetWar x = Check.told("memory 1;memory 1 needs 0;soldier 0 1;soldier 1 1;soldier 0 1;soldier 1 2 1;knows 0 0;knows 1 1;knows 2 0;knows 3 0");
        Check.noNumber("both are one", () -> x.shoot(1, 1, false));
        Check.cannotBe("of one side", () -> x.shoot(0, 2, false));
        Check.cannotBe("not in one place", () -> x.shoot(0, 3, false));
        Check.same("the draws are not asked", x.seed(1), 1);
        Check.same("nor what is usable", x.shoot(1, 0, false), 0);
        Check.cannotBe("knows nothing", () -> x.shoot(1, 0, true));
        Check.same("nothing usable, but known", x.shoot(0, 1, true), 1);
        Check.law(x, "");
        x.hours(1);
        int seed = x.seed(7);
        x.seed(seed);
        Check.same("in one place now", x.shoot(0, 3, false), 0);
        Check.same("the draws are not asked", x.seed(1), seed);
    }

    /** "one is taught by another one of the SIDE in the PLACE to whom it is USABLE". */
    private static void taughtByAnother() {
        ForgetWar x = Check.told("memory 1;memory 1 needs 0;soldier 0 1;soldier 0 1;soldier 0 2 1;soldier 1 1;knows 0 0;knows 1 1;knows 2 0 1;knows 3 0 1");
        Check.noNumber("by oneself", () -> x.teach(0, 0, 0));
        Check.cannotBe("known to the other, but not usable", () -> x.teach(0, 1, 1));
        Check.cannotBe("not in the place", () -> x.teach(0, 2, 1));
        Check.cannotBe("not of the side", () -> x.teach(0, 3, 1));
        Check.cannotBe("known", () -> x.teach(2, 0, 0));
        Check.same("nothing was learnt", x.count(10) + x.count(12), 0);
        Check.same("taught", x.teach(1, 0, 0), 2);
        Check.same("the teacher keeps it", x.soldier(0, 3), 1);
        Check.same("now it is usable to that one", x.teach(0, 1, 1), 2);
        Check.same("the latest", x.known(0, 1), 1);
    }

    /** "one gathers what lies in the FIELD at the PLACE"; "IllegalStateException: .. or cannot be LEARNT". */
    private static void gathered() {
        ForgetWar x = Check.told("memory 1;memory 1 needs 0;soldier 0 1 2;soldier 1 1;knows 1 0 1;soldier 1 2 1;knows 2 0;soldier 1 1;knows 3 0");
        x.shoot(0, 1, false);
        x.shoot(0, 1, false);
        Check.cannotBe("not at the place", () -> x.gather(2, 0));
        Check.cannotBe("its needs are not usable", () -> x.gather(0, 0));
        Check.cannotBe("known", () -> x.gather(3, 1));
        Check.outOfBounds("no third thing", () -> x.gather(0, 2));
        Check.outOfBounds("none below", () -> x.gather(0, -1));
        Check.same("nothing was learnt", x.count(10), 0);
        Check.same("by the other side", x.gather(0, 1), 0);
        Check.same("now it can be", x.gather(0, 0), 1);
        Check.same("learnt", x.count(10), 2);
        Check.outOfBounds("gone", () -> x.gather(1, 0));
    }

    /** "one reads aloud (as in (c), whatever THE LAW)"; "IllegalStateException: there is no BOOK". */
    private static void readAloud() {
        ForgetWar x = Check.told("memory 1;soldier 0 1;soldier 0 1;soldier 1 1;book 0 0");
        Check.law(x, "read if 2 < 1");
        x.hours(1);
        Check.same("nobody reads by the law", x.count(10), 0);
        Check.cannotBe("no book", () -> x.read(1));
        Check.same("how often", x.read(0), 2);
    }

    /** "(each also if it changes nothing)". */
    private static void alsoIfNothingChanges() {
        ForgetWar x = Check.told("memory 1;soldier 0 1;book 0 0;knows 0 0");
        Check.same("nothing is learnt", x.read(0), 0);
        Check.same("an act", x.count(12), 1);
        Check.yes("undone", x.undo());
        Check.no("once", x.undo());
    }

    /** "THE LOG: the latest 60 SHOTS that hit". */
    private static void latestSixtyShots() {
        ForgetWar x = Check.told("memory 1;memory 1;soldier 0 1;soldier 1 1;soldier 1 1;knows 1 0;knows 2 1;book 1 0");
        x.shoot(0, 2, true);
        for (int k = 1; k <= 62; k++) {
            Check.same("rows", x.count(11), Math.min(k, 60));
            Check.same("the first shot", x.led(2, 1), k <= 60 ? k - 1 : ForgetWar.NONE);
            Check.same("beyond", x.log(Math.min(k, 60), 3), ForgetWar.NONE);
            Check.same("the oldest", x.log(Math.min(k, 60) - 1, 2), k <= 60 ? 2 : 1);
            x.shoot(0, 1, false);
            x.read(1);
        }
        ForgetWar y = Check.told(TWO + "knows 1 0 1 2");
        Check.law(y, "good 100");
        y.hours(60);
        Check.same("who misses is not in it", y.count(11), 0);
    }

    /** "HOUR (as it was)". */
    private static void hourAsItWas() {
        ForgetWar x = Check.told(TWO + "knows 1 0 1 2");
        Check.law(x, "aim 100 if side < 1");
        x.hours(2);
        x.shoot(0, 1, true);
        int[] due = {2, 1, 0};
        for (int ago = 0; ago < 3; ago++) {
            Check.same("the hour " + ago + " ago", x.log(ago, 0), due[ago]);
        }
    }

    /** "used for at most 512 calls": HOURS and what is LOST and LEARNT go on being counted. */
    private static void fiveHundredCalls() {
        ForgetWar x = Check.told("memory 1;memory 1;memory 1;soldier 0 1;soldier 0 1 2;soldier 1 1;soldier 1 2 1;book 0 0 1 2;book 2 0 1 2;knows 0 0;knows 2 0");
        Check.law(x, "aim 100 if hour > 999;aim 30;good 50 if alone;read");
        int lost = 0;
        for (int k = 1; k <= 480; k++) {
            lost += x.hours(60);
        }
        Check.same("hours", x.count(5), 28800);
        Check.same("lost", x.count(9), lost);
        Check.yes("many", lost > 28800);
        Check.same("rows", x.count(11), 60);
        Check.same("things", x.count(6), 40);
        Check.same("acts", x.count(12), 12);
        Check.same("none comes from nowhere", x.count(7), 2 + x.count(10) - lost);
        Check.same("aim", x.rule(0, 0), 100);
        Check.yes("the latest row", x.log(0, 0) >= 28798);
    }
}
