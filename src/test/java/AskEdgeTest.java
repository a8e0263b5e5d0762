/** The edges that the document's words on what can be asked name, in its order: a method a sentence. */
final class AskEdgeTest {
    public static void main(String[] args) {
        restsAndBears();
        fallsIfKnown();
        shotsTillNotUsable();
        outlastsOrDoesNotHold();
        outlastsWithoutAPlan();
        reservesOneToTen();
        reservesThatLack();
        companyOfNoneToTwelve();
        drillOfSeveralTheLeast();
        ordersObeyed();
        duelLostAndWon();
        duelOfSevenAtMost();
        bestOfSeveralTheLeast();
        spreadNoneToSixty();
        spreadOfOneSide();
        soonestWithinSixty();
        muteBehindTwelveHours();
        muteOfSeveralTheLeast();
        muteIfNoneDo();
        amendsOfSeveralTheLeast();
        agreedOfEachSide();
        treatyOfNone();
        setsAreBits();
        matchesOfNone();
        matchesAtMostEight();
        matchesNoOneTwice();
        matchesFromHourNone();
        trialNoneToSixty();
        trialAtTheFirst();
        spanNoneToTwentyFour();
        spanFromOneToSix();
        meetsFromNowOn();
        placeNoneToThousand();
        ledAndHitter();
        knownAndCounted();
        Check.close("AskEdgeTest");
    }

    private static int bits(int... memories) {
        int set = 0;
        for (int m : memories) {
            set |= 1 << m;
        }
        return set;
    }

    /** "RESTS .. straight or by others (not itself)"; "BEARS: all that it needs so". */
    private static void restsAndBears() {
        ForgetWar x = Check.told("memory 1;memory 1;memory 1 needs 0;memory 1 needs 2;memory 1 needs 2 1;memory 1 needs 4 3");
        int[] rests = {bits(2, 3, 4, 5), bits(4, 5), bits(3, 4, 5), bits(5), bits(5), 0};
        int[] bears = {0, 0, bits(0), bits(0, 2), bits(0, 1, 2), bits(0, 1, 2, 3, 4)};
        for (int m = 0; m < 6; m++) {
            Check.same("rests on " + m, x.memory(m, 2), rests[m]);
            Check.same("bears " + m, x.memory(m, 3), bears[m]);
        }
        Check.war(x, "memory 1 needs 5");
        Check.same("later texts, too", x.memory(0, 2), bits(2, 3, 4, 5, 6));
        Check.same("by others", x.memory(6, 3), bits(0, 1, 2, 3, 4, 5));
    }

    /** "FALLS .. (0, if not known)". */
    private static void fallsIfKnown() {
        ForgetWar x = Check.told("memory 1;memory 1 needs 0;memory 1 needs 1;memory 1;soldier 0 1;soldier 0 1;knows 0 0 1 2;knows 1 1 2 3");
        int[][] due = {{3, 2, 1, 0}, {0, 0, 0, 1}};
        for (int d = 0; d < 2; d++) {
            for (int m = 0; m < 4; m++) {
                Check.same("falls of " + d + " and " + m, x.falls(d, m), due[d][m]);
            }
        }
    }

    /** "SHOTS at a SOLDIER till a MEMORY is not USABLE: good: 1 .., else the fewest latest ones in a row; 0, if it is not". */
    private static void shotsTillNotUsable() {
        ForgetWar x = Check.told("memory 1;memory 1;memory 1 needs 0;memory 1 needs 2;memory 1;soldier 0 1;soldier 0 1;knows 0 3 2 1 0;knows 1 0 1 2 3");
        int[][] latest = {{1, 2, 1, 1, 0}, {4, 3, 2, 1, 0}};
        for (int d = 0; d < 2; d++) {
            for (int m = 0; m < 5; m++) {
                Check.same("the latest of " + d + " till " + m, x.shots(d, m, false), latest[d][m]);
                Check.same("good ones at " + d + " till " + m, x.shots(d, m, true), m < 4 ? 1 : 0);
            }
        }
        ForgetWar y = Check.told("memory 1;memory 1 needs 0;soldier 0 1;knows 0 1");
        Check.same("known, but not usable", y.shots(0, 1, false) + y.shots(0, 1, true), 0);
        ForgetWar z = Check.told(Check.times("memory 1", 12) + ";soldier 0 1;knows 0 0 1 2 3 4 5 6 7 8 9 10 11");
        Check.same("all 12", z.shots(0, 0, false), 12);
    }

    /** "OUTLASTS: the fewest of these (0: the PLAN does not HOLD) .. the MEMORY (of several the least)". */
    private static void outlastsOrDoesNotHold() {
        ForgetWar x = Check.told("memory 1;memory 1;memory 1;memory 1;soldier 0 1;soldier 0 1;soldier 1 1;knows 0 2 3 1;knows 1 1 2;knows 2 0 1 2 3;plan 0 2 1");
        Check.same("two good ones each", x.outlasts(0, true, false), 2);
        Check.same("of several the least", x.outlasts(0, true, true), 1);
        Check.same("1 and 2 of 1, 3 and 1 of 2", x.outlasts(0, false, false), 3);
        Check.same("the fewest", x.outlasts(0, false, true), 1);
        Check.war(x, "plan 0 3");
        Check.same("one good one", x.outlasts(0, true, false), 1);
        Check.same("of 3", x.outlasts(0, true, true), 3);
        Check.same("2 of 3", x.outlasts(0, false, false), 2);
        Check.same("of 3", x.outlasts(0, false, true), 3);
        Check.war(x, "plan 0 0");
        Check.same("it does not hold", x.outlasts(0, true, false) + x.outlasts(0, false, false), 0);
        Check.same("by 0", x.outlasts(0, true, true) + x.outlasts(0, false, true), 0);
        Check.same("what is lost", x.plan(0, true), 1);
    }

    /** "none without a PLAN". */
    private static void outlastsWithoutAPlan() {
        ForgetWar x = Check.told("memory 1;soldier 0 1;knows 0 0;plan 0 0");
        for (int k = 0; k < 4; k++) {
            Check.same("none " + k, x.outlasts(1, k > 1, k % 2 > 0), ForgetWar.NONE);
        }
        Check.same("with one", x.outlasts(0, true, false), 1);
        Check.war(x, "plan 1 0");
        Check.same("a plan of a side without soldiers", x.outlasts(1, true, false), 0);
        Check.same("its memory", x.outlasts(1, true, true), 0);
    }

    /** "RESERVES of a SIDE for K (1 to 10)". */
    private static void reservesOneToTen() {
        ForgetWar x = Check.told("memory 1;" + Check.times("soldier 1 1", 10) + ";plan 1 0");
        Check.noNumber("0", () -> x.reserves(1, 0));
        Check.noNumber("11", () -> x.reserves(1, 11));
        Check.noNumber("-1", () -> x.reserves(0, -1));
        Check.same("1", x.reserves(1, 1), 1);
        Check.same("10", x.reserves(1, 10), 10);
        Check.same("without a plan", x.reserves(0, 10), 0);
        Check.war(x, "plan 0 0");
        Check.same("without soldiers", x.reserves(0, 1), ForgetWar.NONE);
    }

    /** "none, if of one more lack than there are SOLDIERS of the SIDE who can LEARN it now (each asked by itself)". */
    private static void reservesThatLack() {
        ForgetWar x = Check.told("memory 1;memory 1 needs 0;memory 1;soldier 0 1;soldier 0 2;soldier 0 3;soldier 1 1;knows 0 0 1;knows 1 0;knows 2 1;plan 0 1");
        Check.same("one has it", x.reserves(0, 1), 0);
        Check.same("one can learn it", x.reserves(0, 2), 1);
        Check.same("who knows it already cannot", x.reserves(0, 3), ForgetWar.NONE);
        Check.war(x, "plan 0 2");
        Check.same("1 of it and 2 of the other", x.reserves(0, 2), 3);
        Check.same("nobody of the other side helps", x.reserves(0, 3), ForgetWar.NONE);
        ForgetWar y = Check.told(Check.times("memory 1", 14));
        Check.war(y, "soldier 0 1;soldier 0 1;knows 0 0 1 2 3 4 5 6 7 8 9 10;knows 1 0 1 2 3 4 5 6 7 8 9 10 11;plan 0 12 13");
        Check.same("room for one: each asked by itself", y.reserves(0, 1), 2);
        Check.same("who knows 12 cannot", y.reserves(0, 2), ForgetWar.NONE);
    }

    /** "COMPANY of N (0 to 12)". */
    private static void companyOfNoneToTwelve() {
        ForgetWar x = Check.told(Check.times("memory 1", 12) + ";soldier 0 1");
        Check.war(x, "soldier 1 1;knows 0 11 10 9 8 7 6 5 4 3 2 1 0;knows 1 3;order 0 11;order 0 0;order 1 3;order 1 2;order 0 11 1");
        Check.noNumber("-1", () -> x.company(-1));
        Check.noNumber("13", () -> x.company(13));
        Check.same("0", x.company(0), 0);
        Check.same("1", x.company(1), bits(0, 2));
        Check.same("10", x.company(10), bits(0, 2));
        Check.same("11", x.company(11), bits(0, 2, 4));
        Check.same("12", x.company(12), bits(0, 1, 2, 4));
    }

    /** "DRILL: .. of several the least; none without". */
    private static void drillOfSeveralTheLeast() {
        ForgetWar x = Check.told("memory 1;memory 1 needs 0;memory 1;memory 1 needs 1 2;soldier 0 1");
        Check.same("none", x.drill(false), ForgetWar.NONE);
        Check.same("none", x.drill(true), ForgetWar.NONE);
        Check.war(x, "order 0 3");
        Check.same("the only one", x.drill(false), 0);
        Check.same("4 in all", x.drill(true), 4);
        Check.war(x, "order 0 1;order 0 0 1;order 0 2 0");
        Check.same("of several the least", x.drill(false), 1);
        Check.same("2 in all", x.drill(true), 2);
        Check.war(x, "order 0 2");
        Check.same("the fewest", x.drill(false), 4);
        Check.same("1 in all", x.drill(true), 1);
    }

    /** "OBEYED, if all of these are USABLE by that one". */
    private static void ordersObeyed() {
        ForgetWar x = Check.told("memory 1;memory 1 needs 0;soldier 0 1;soldier 1 1;soldier 1 1;knows 0 1;knows 1 0 1;order 0 1;order 1 1 0;order 2 0;order 1 0");
        int[] due = {0, 1, 0, 1};
        for (int k = 0; k < 4; k++) {
            Check.same("order " + k, x.order(k, 2), due[k]);
        }
        Check.same("of 0", x.soldier(0, 8), 0);
        Check.same("of 1", x.soldier(1, 8), bits(1, 3));
        Check.same("of 2", x.soldier(2, 8), 0);
        Check.same("by a trial", x.trial(0, 2), bits(1, 3));
        x.shoot(0, 1, false);
        Check.same("of what is left", x.soldier(1, 8), bits(3));
    }

    /** "who has nothing USABLE at one's turn has lost (who has it, and finds nothing known to be hit, wins)". */
    private static void duelLostAndWon() {
        ForgetWar x = Check.told("memory 1;memory 1 needs 0;soldier 0 1;soldier 1 1;soldier 0 2;soldier 1 1;knows 0 0;knows 1 1;knows 3 0 1");
        Check.same("has something, the other nothing", x.duel(0, 2), 0);
        Check.same("nothing known", x.duel(2, 0), 0);
        Check.same("nothing usable", x.duel(1, 0), 0);
        Check.same("neither has anything", x.duel(2, 1), 1);
        Check.same("neither has anything", x.duel(1, 2), 2);
        Check.same("the first hits first", x.duel(0, 3), 0);
        Check.same("the first hits first", x.duel(3, 0), 3);
        Check.same("of one side, far away", x.duel(0, 2), 0);
        Check.noNumber("both are one", () -> x.duel(1, 1));
    }

    /** "at most 7 MEMORIES known each, else -3". */
    private static void duelOfSevenAtMost() {
        ForgetWar x = Check.told(Check.times("memory 1", 8) + ";soldier 0 1;soldier 1 1;knows 0 0 1 2 3 4 5 6;knows 1 0 1 2 3 4 5 6");
        Check.same("7 and 7", x.duel(0, 1), 0);
        Check.same("7 and 7", x.best(0, 1), 0);
        Check.war(x, "knows 1 7");
        Check.same("7 and 8", x.duel(0, 1), -3);
        Check.same("8 and 7", x.duel(1, 0), -3);
        Check.same("7 and 8", x.best(0, 1), -3);
        Check.same("8 and 7", x.best(1, 0), -3);
        Check.noNumber("8, but both are one", () -> x.duel(1, 1));
        Check.noNumber("8, but both are one", () -> x.best(1, 1));
        Check.war(x, "soldier 0 1");
        Check.same("8 and 0", x.duel(1, 2), -3);
        Check.same("0 and 8", x.best(2, 1), -3);
        x.shoot(0, 1, false);
        Check.same("7 again", x.duel(1, 0), 1);
    }

    /** "BEST: .. (of several the least); none, if the first loses, or there is nothing to be hit". */
    private static void bestOfSeveralTheLeast() {
        ForgetWar x = Check.told("memory 1;memory 1;memory 1 needs 1;memory 1;soldier 0 1;soldier 1 1;soldier 0 1;soldier 1 1;knows 0 3 1;knows 1 2 3 1;knows 2 2");
        Check.same("of 1 and 3 the least", x.best(0, 1), 1);
        Check.same("of 1 and 3 the least", x.best(1, 0), 1);
        Check.same("nothing to be hit", x.best(0, 3), ForgetWar.NONE);
        Check.same("loses: nothing usable", x.best(2, 0), ForgetWar.NONE);
        Check.same("loses: nothing usable", x.best(3, 0), ForgetWar.NONE);
        Check.same("whatever: 2 alone", x.best(0, 2), 2);
        Check.war(x, "knows 1 0");
        Check.same("loses: fewer", x.best(0, 1), ForgetWar.NONE);
        Check.same("enough of them: the least of all", x.best(1, 0), 1);
        Check.war(x, "knows 3 3 0 1 2");
        Check.same("also what bears nothing usable", x.best(3, 2), 2);
        Check.noNumber("both are one", () -> x.best(0, 0));
        ForgetWar y = Check.told("memory 1;memory 1 needs 0;soldier 0 1;soldier 1 1;knows 0 1;knows 1 0");
        Check.same("loses, though one hit would do", y.best(0, 1), ForgetWar.NONE);
        Check.same("wins by it", y.best(1, 0), 1);
    }

    /** "SPREAD of a MEMORY in a SIDE by N HOURS (0 to 60)". */
    private static void spreadNoneToSixty() {
        ForgetWar x = Check.told("memory 1;soldier 0 0 1 1 1 1;soldier 0 2 2 2 2 2 0;soldier 0 0 5;soldier 0 5 6;knows 0 0");
        Check.noNumber("-1", () -> x.spread(0, 0, -1));
        Check.noNumber("61", () -> x.spread(0, 0, 61));
        Check.same("0: who is at 0 now", x.spread(0, 0, 0), bits(0, 2));
        Check.same("4: not yet", x.spread(0, 0, 4), bits(0, 2));
        Check.same("5: at 0", x.spread(0, 0, 5), bits(0, 1, 2));
        Check.same("60: 2 and 3 are never in one place", x.spread(0, 0, 60), bits(0, 1, 2));
        x.hours(2);
        Check.same("3 from then", x.spread(0, 0, 3), bits(0, 1));
        Check.same("2 from then", x.spread(0, 0, 2), bits(0));
        Check.same("again", x.spread(0, 0, 3), bits(0, 1));
        ForgetWar y = Check.told("memory 1;soldier 0 1 2;soldier 0 4 3 2 3;soldier 0 2 5 5 5;knows 0 0");
        Check.same("never at 2 in one hour", y.spread(0, 0, 60), bits(0));
        y.seed(5);
        Check.same("nothing else happens", y.count(5), 0);
    }

    /** "those of the SIDE to whom it is USABLE": asked for one SIDE behind the other. */
    private static void spreadOfOneSide() {
        ForgetWar x = Check.told("memory 1;memory 1 needs 0;soldier 0 0;soldier 1 0;soldier 0 0;soldier 1 0;knows 0 0 1;knows 1 1;knows 3 0");
        for (int n = 0; n < 4; n++) {
            Check.same("side 0", x.spread(0, 0, 4), bits(0, 2));
            Check.same("side 1", x.spread(0, 1, n), bits(1, 3));
            Check.same("side 0", x.spread(1, 0, n), bits(0, 2));
            Check.same("known, but not usable", x.spread(1, 1, n), 0);
        }
        Check.same("behind others", x.soonest(1, 3) + x.soonest(0, 2), 0);
    }

    /** "SOONEST .. (0: in the PLACE now); none within 60". */
    private static void soonestWithinSixty() {
        String chain = "soldier 0 0 0 0 0 1;soldier 0 4 4 4 4 2 1;soldier 0 3 5 5 2 5;";
        ForgetWar x = Check.told(chain + "soldier 0 3 6 6 6 6 6;soldier 0 1;soldier 1 0");
        Check.same("the same", x.soonest(2, 2), 0);
        Check.same("in the place now", x.soonest(2, 3), 0);
        Check.same("both ways", x.soonest(3, 2), 0);
        Check.noNumber("of unlike sides", () -> x.soonest(0, 5));
        ForgetWar y = Check.told(chain + "soldier 0 3 6 6 6 6 6");
        Check.same("60", y.soonest(0, 3), 60);
        ForgetWar z = Check.told("soldier 0 0 0 0 0 1;soldier 0 4 4 4 4 2 1;soldier 0 5 3 5 2 5;soldier 0 6 3 6 6 6 6");
        Check.same("61 is none", z.soonest(0, 3), ForgetWar.NONE);
        z.hours(1);
        Check.same("60 from then", z.soonest(0, 3), 60);
        ForgetWar w = Check.told("soldier 0 0 1;soldier 0 1 0");
        Check.same("never", w.soonest(0, 1), ForgetWar.NONE);
    }

    /** "so that not all of the SIDE have heard it behind 12 HOURS". */
    private static void muteBehindTwelveHours() {
        ForgetWar x = Check.told("memory 1;soldier 0 2 1 1 1;soldier 0 3 3 2 3 3;knows 0 0");
        Check.same("in 12", x.soonest(0, 1), 12);
        Check.same("the one must be silent", x.mute(0, 0), 1);
        ForgetWar y = Check.told("memory 1;soldier 0 1 2 1 1;soldier 0 3 3 3 2 3;knows 0 0");
        Check.same("in 13", y.soonest(0, 1), 13);
        Check.same("none must be", y.mute(0, 0), 0);
        y.hours(1);
        Check.same("in 12 from then", y.mute(0, 0), 1);
    }

    /** "the fewest SOLDIERS .. who must be silent .. of several the least as bits". */
    private static void muteOfSeveralTheLeast() {
        ForgetWar x = Check.told("memory 1;soldier 0 3 2;soldier 0 1 2;soldier 0 1;knows 2 0");
        Check.same("of 2 and of 1 the least", x.mute(0, 0), bits(1));
        ForgetWar y = Check.told("memory 1;soldier 0 1;soldier 0 1;soldier 0 1;soldier 0 1;knows 3 0;knows 1 0");
        Check.same("two", y.mute(0, 0), bits(1, 3));
        ForgetWar z = Check.told("memory 1;soldier 0 1 2;soldier 0 1 3;soldier 0 4 2;soldier 0 4 3;soldier 0 1;knows 4 0");
        Check.same("one who knows rather than two who bear it on", z.mute(0, 0), bits(4));
        ForgetWar w = Check.told("memory 1;soldier 0 1;soldier 0 7;knows 0 0;soldier 1 1;soldier 1 1;knows 2 0");
        Check.same("none", w.mute(0, 0), 0);
        Check.same("of the other side", w.mute(0, 1), bits(2));
    }

    /** "-2, if none do (also of a SIDE without SOLDIERS)". */
    private static void muteIfNoneDo() {
        ForgetWar x = Check.told("memory 1;memory 1 needs 0;soldier 0 1;soldier 0 2;knows 0 0;knows 1 0 1");
        Check.same("usable to all", x.mute(0, 0), -2);
        Check.same("usable to one alone", x.mute(1, 0), 0);
        Check.same("without soldiers", x.mute(0, 1), -2);
        Check.war(x, "soldier 1 1");
        Check.same("usable to nobody", x.mute(0, 1), 0);
        ForgetWar y = Check.told("memory 1;" + Check.times("soldier 1 3", 10) + ";knows 9 0");
        Check.same("ten", y.mute(0, 1), bits(9));
    }

    /** "AMENDS: the fewest MEMORIES known to be forgotten .. of several the least as bits". */
    private static void amendsOfSeveralTheLeast() {
        ForgetWar x = Check.told("memory 1;memory 1;memory 1 needs 0;memory 1 needs 1;memory 1;soldier 0 1;knows 0 0 1 2 3");
        Check.same("no clash", x.amends(0), 0);
        Check.war(x, "clash 2 3");
        Check.same("also by what bears it", x.amends(0), bits(0));
        Check.war(x, "clash 1 4");
        Check.same("who does not know 4", x.amends(0), bits(0));
        Check.war(x, "knows 0 4");
        Check.same("one rather than two", x.amends(0), bits(1));
        Check.war(x, "clash 0 4;clash 0 1");
        Check.same("two: the least", x.amends(0), bits(0, 1));
        ForgetWar y = Check.told("memory 1;memory 1;memory 1 needs 0;soldier 0 1;knows 0 2 1;clash 1 2;soldier 0 1;knows 1 2 0 1;soldier 0 1");
        Check.same("known, but not usable", y.amends(0), 0);
        Check.same("of 0, 1, 2 the least", y.amends(1), bits(0));
        Check.same("nothing known", y.amends(2), 0);
        ForgetWar z = Check.told("memory 1;memory 1;memory 1;soldier 0 1;knows 0 0 1 2;clash 0 2;clash 2 1");
        Check.same("one greater rather than two", z.amends(0), bits(2));
    }

    /** "AGREED: MEMORIES that are USABLE by somebody of each SIDE". */
    private static void agreedOfEachSide() {
        ForgetWar x = Check.told("memory 1;memory 1 needs 0;memory 1;soldier 0 1;soldier 0 1;soldier 1 1;knows 0 0;knows 1 1 2;knows 2 0 1 2");
        Check.same("by somebody of each", x.agreed(), bits(0, 2));
        Check.same("of none", Check.told("memory 1;soldier 0 1;knows 0 0").agreed(), 0);
    }

    /** "TREATY .. BINDS, if all are AGREED (also of none)"; "(0, if it does not BIND; none of no MEMORIES)". */
    private static void treatyOfNone() {
        ForgetWar x = Check.told("memory 1;memory 1;memory 1;soldier 0 1;soldier 0 1;soldier 1 1;soldier 1 1;soldier 1 1;knows 0 0 1;knows 1 0;knows 2 0 1;knows 3 0 1 2;knows 4 0");
        Check.same("of none: binds", x.treaty(0, false), 1);
        Check.same("of none: none", x.treaty(0, true), ForgetWar.NONE);
        Check.same("binds", x.treaty(bits(0, 1), false), 1);
        Check.same("by one of side 0", x.treaty(bits(0, 1), true), 1);
        Check.same("by two of side 0", x.treaty(bits(0), true), 2);
        Check.same("does not bind", x.treaty(bits(0, 2), false), 0);
        Check.same("does not bind: 0", x.treaty(bits(0, 2), true), 0);
    }

    /** "Sets are bits; of none they count for nothing". */
    private static void setsAreBits() {
        ForgetWar x = Check.told("memory 1;soldier 0 1;soldier 1 1;knows 0 0;knows 1 0");
        for (int bit = 1; bit < 32; bit++) {
            Check.same("bit " + bit + " alone", x.treaty(1 << bit, true), ForgetWar.NONE);
            Check.same("bit " + bit + " alone", x.treaty(1 << bit, false), 1);
            Check.same("bit " + bit + " and 0", x.treaty(1 << bit | 1, true), 1);
        }
        Check.same("all bits", x.treaty(-1, true), 1);
        Check.same("none at all", new ForgetWar().treaty(-1, true), ForgetWar.NONE);
        ForgetWar y = Check.told(Check.times("memory 1", 14));
        Check.war(y, "memory 1;memory 1;soldier 0 1;soldier 1 1;knows 0 15;knows 1 15");
        Check.same("the 16th", y.treaty(1 << 15, true), 1);
        Check.same("beyond", y.treaty(1 << 16, true), ForgetWar.NONE);
    }

    private static int matches(ForgetWar x, String told, int place, int k) {
        Check.tell(x, told);
        return x.matches(place, k);
    }

    /** "of no MEMORIES 1". */
    private static void matchesOfNone() {
        ForgetWar x = new ForgetWar();
        Check.same("of nobody", matches(x, "", 0, -1), 1);
        Check.noNumber("there is no first", () -> matches(x, "", 0, 0));
        Check.noNumber("nor -2", () -> matches(x, "", 0, -2));
        Check.noNumber("no memory", () -> matches(x, "\0", 0, -1));
        ForgetWar y = Check.told("memory 1;soldier 0 3");
        Check.same("a place where nobody was", matches(y, "", 7, -1), 1);
        Check.outOfBounds("place 8", () -> matches(y, "", 8, -1));
        Check.outOfBounds("place -1", () -> matches(y, "", -1, -1));
        Check.same("nobody", matches(y, "\0", 7, -1), 0);
        Check.same("nobody: none", matches(y, "\0", 7, 0), ForgetWar.NONE);
    }

    /** "(as bytes, at most 8)". */
    private static void matchesAtMostEight() {
        ForgetWar x = Check.told("memory 1;memory 1;" + Check.times("soldier 0 0", 9));
        Check.same("8 to 9", matches(x, "\0\1\0\1\0\1\0\1", 0, -1), 362880);
        Check.same("the 8th", matches(x, "\0\1\0\1\0\1\0\1", 0, 7), 7);
        Check.noNumber("k is none of it", () -> matches(x, "\0\1\0\1\0\1\0\1", 0, 8));
        Check.noNumber("9", () -> matches(x, "\0\1\0\1\0\1\0\1\0", 0, -1));
        Check.noNumber("no memory", () -> matches(x, "\0\2", 0, -1));
        Check.noNumber("no memory", () -> matches(x, "\0\u0080", 0, -1));
        Check.noNumber("no memory", () -> matches(x, "\u00ff", 0, -1));
        Check.noNumber("a text", () -> matches(x, "0", 0, -1));
        Check.noNumber("-2", () -> matches(x, "\0", 0, -2));
        Check.noNumber("1 of one", () -> matches(x, "\0", 0, 1));
        Check.tell(x, "\0\1\0");
        Check.noNumber("3 of three", () -> x.matches(0, 3));
        Check.no("used up all the same", x.end(1));
    }

    /** "a SOLDIER who does not know it .. no one twice .. the first (the first one to the least number that can be, then the second, ..)". */
    private static void matchesNoOneTwice() {
        ForgetWar x = Check.told("memory 1;memory 1;memory 1;soldier 0 1;soldier 1 1;soldier 0 1;knows 0 2 1;knows 1 2;knows 2 1 2");
        Check.same("0 to any", matches(x, "\0", 1, -1), 3);
        Check.same("0 and 1: 1 to 1 alone", matches(x, "\0\1", 1, -1), 2);
        Check.same("the first", matches(x, "\0\1", 1, 0), 0);
        Check.same("the second", matches(x, "\0\1", 1, 1), 1);
        Check.same("all three", matches(x, "\0\1\0", 1, -1), 2);
        Check.same("the first", matches(x, "\0\1\0", 1, 0), 0);
        Check.same("the third", matches(x, "\0\1\0", 1, 2), 2);
        Check.same("four to three", matches(x, "\0\1\0\0", 1, -1), 0);
        Check.same("four to three", matches(x, "\0\1\0\0", 1, 0), ForgetWar.NONE);
        Check.same("2 is known to all", matches(x, "\0\2", 1, -1), 0);
        Check.same("1 twice", matches(x, "\1\1", 1, -1), 0);
        Check.same("known, usable or not", matches(Check.told("memory 1;memory 1 needs 0;soldier 0 1;knows 0 1"), "\1", 1, -1), 0);
        ForgetWar y = Check.told("memory 1;memory 1;soldier 0 1;soldier 0 1;soldier 0 1;knows 1 1;knows 2 1");
        Check.same("0 must leave the first", matches(y, "\0\1", 1, 0), 1);
        Check.same("the first", matches(y, "\0\1", 1, 1), 0);
        Check.same("the third", matches(y, "\0\1\0", 1, 2), 2);
    }

    /** "was at that PLACE in some HOUR from 0 to now (by ROUTE, as if one had always gone on)". */
    private static void matchesFromHourNone() {
        ForgetWar x = Check.told("memory 1;soldier 0 0 1 2 3 4 5;soldier 0 6 7");
        for (int hour = 0; hour < 8; hour++) {
            for (int place = 0; place < 8; place++) {
                boolean was = place < 6 ? place <= hour : place - 6 <= hour;
                Check.same("hour " + hour + " place " + place, matches(x, "\0", place, -1), was ? 1 : 0);
            }
            x.hours(1);
        }
        Check.war(x, "soldier 1 3 2 1");
        Check.same("late: as if there before", matches(x, "\0", 1, -1), 2);
    }

    /** "TRIAL of N HOURS (0 to 60) from now (draws, too; nothing stays)". */
    private static void trialNoneToSixty() {
        ForgetWar x = Check.told("memory 1;memory 1;soldier 0 1;soldier 1 1;knows 0 0 1;knows 1 0 1;order 0 1;order 1 0");
        Check.noNumber("-1", () -> x.trial(-1, 0));
        Check.noNumber("61", () -> x.trial(61, 0));
        Check.noElement("what 4", () -> x.trial(0, 4));
        Check.noElement("what -1", () -> x.trial(0, -1));
        Check.same("0: as it is", x.trial(0, 0) * 100 + x.trial(0, 1) * 10 + x.trial(0, 2), 443);
        Check.same("0: none", x.trial(0, 3), ForgetWar.NONE);
        for (int n = 1; n <= 60; n++) {
            int known = x.trial(n, 0);
            int usable = x.trial(n, 1);
            int obeyed = x.trial(n, 2);
            Check.same("nothing stays", x.count(5), 0);
            x.hours(n);
            Check.same("known behind " + n, known, x.count(7));
            Check.same("usable behind " + n, usable, x.count(8));
            Check.same("obeyed behind " + n, obeyed, x.soldier(0, 8) | x.soldier(1, 8));
            x.undo();
        }
    }

    /** "behind how many HOURS (1 to N) some ORDER that is OBEYED now is OBEYED no more, at the first (none)". */
    private static void trialAtTheFirst() {
        ForgetWar x = Check.told("memory 1;memory 1;soldier 0 1 2 3 4 5;soldier 1 4 3 2 1 5;knows 0 0;knows 1 0 1;order 1 1;order 1 0;order 0 1;book 1 1");
        Check.law(x, "aim 100 if side < 1");
        Check.same("3: not yet", x.trial(3, 3), ForgetWar.NONE);
        Check.same("4: in the last hour", x.trial(4, 3), 4);
        Check.same("60: at the first", x.trial(60, 3), 4);
        x.hours(4);
        Check.same("what is not obeyed now", x.trial(4, 3), ForgetWar.NONE);
        Check.same("the other one", x.trial(5, 3), 5);
        x.hours(5);
        Check.same("none is obeyed now", x.trial(60, 3), ForgetWar.NONE);
        ForgetWar y = Check.told("memory 1;soldier 0 1 2;soldier 1 2;knows 0 0;knows 1 0;book 1 0;order 1 0");
        Check.law(y, "aim 100;read if hour > 0");
        Check.same("behind 1, though again behind 2", y.trial(2, 3), 1);
        Check.same("again obeyed", y.trial(2, 2), 1);
    }

    /** "SPAN by N HOURS (0 to 24)". */
    private static void spanNoneToTwentyFour() {
        ForgetWar x = Check.told("memory 1;memory 1 needs 0;soldier 0 1;soldier 1 2;soldier 0 3;knows 0 0 1;knows 1 1;knows 2 0");
        Check.noNumber("-1", () -> x.span(0, -1, true));
        Check.noNumber("25", () -> x.span(0, 25, false));
        for (int n = 0; n <= 24; n += 24) {
            Check.same("fewest of 0", x.span(0, n, false), 3);
            Check.same("most of 0", x.span(0, n, true), 3);
            Check.same("fewest of 1", x.span(1, n, false), 0);
            Check.same("most of 1", x.span(1, n, true), 0);
        }
        Check.same("of nobody", new ForgetWar().span(0, 24, false) + new ForgetWar().span(1, 24, true), 0);
    }

    /** "behind a TRIAL from SEED 1, 2, .. 6". */
    private static void spanFromOneToSix() {
        for (int shooters = 1; shooters < 4; shooters++) {
            ForgetWar x = Check.told(Check.times("memory 1", 12) + ";soldier 1 1");
            Check.war(x, Check.times("soldier 0 1", shooters) + ";knows 0 0 1 2 3 4 5 6 7 8 9 10 11");
            for (int d = 1; d <= shooters; d++) {
                Check.war(x, "knows " + d + " 0");
            }
            spansAre(x, shooters);
        }
    }

    private static void spansAre(ForgetWar x, int shooters) {
        for (int aim = 0; aim <= 100; aim++) {
            Check.law(x, "aim " + aim + " if side < 1");
            x.seed(aim);
            int hours = 1 + aim % 3;
            int few = 99;
            int most = -1;
            for (int seed = 1; seed <= 6; seed++) {
                int left = leftInTurn(shooters, aim, hours, seed);
                few = Math.min(few, left);
                most = Math.max(most, left);
            }
            Check.same("fewest by " + aim, x.span(1, hours, false), few);
            Check.same("most by " + aim, x.span(1, hours, true), most);
            Check.same("the other side keeps all", x.span(0, hours, false), shooters);
        }
    }

    /** What is left of 12 to the one at whom all shoot, and who, numbered 0, draws ahead of them, and misses. */
    private static int leftInTurn(int shooters, int aim, int hours, int seed) {
        int left = 12;
        for (int k = 0; k < hours * (shooters + 1) && left > 0; k++) {
            seed = seed * 1103515245 + 12345;
            if (k % (shooters + 1) > 0 && (seed >>> 16 & 0x7fff) % 100 < aim) {
                left--;
                seed = seed * 1103515245 + 12345;
            }
        }
        return left;
    }

    /** "The first HOUR from now's on (within 144 more) in which two are in one PLACE; NONE". */
    private static void meetsFromNowOn() {
        ForgetWar x = Check.told("soldier 0 0 1 1 1 1;soldier 1 2 2 2 2 2 0;soldier 0 0 3;soldier 0 3 0");
        Check.same("now", x.meets(0, 2), 0);
        Check.same("in 5", x.meets(0, 1), 5);
        Check.same("of one side, never", x.meets(2, 3), ForgetWar.NONE);
        x.hours(6);
        Check.same("29 more: in 35", x.meets(0, 1), 35);
        Check.same("the other way", x.meets(1, 0), 35);
        x.hours(29);
        Check.same("now", x.meets(0, 1), 35);
        Check.same("who was there", x.count(5), 35);
        Check.noNumber("both are one", () -> x.meets(0, 0));
    }

    /** "so many HOURS from now (0 to 1000)". */
    private static void placeNoneToThousand() {
        ForgetWar x = Check.told("soldier 0 1 2 3;soldier 0 7");
        Check.same("0", x.place(0, 0), 1);
        Check.same("1000", x.place(0, 1000), 2);
        Check.same("999", x.place(0, 999), 1);
        Check.same("one place", x.place(1, 1000), 7);
        Check.noNumber("-1", () -> x.place(0, -1));
        Check.noNumber("1001", () -> x.place(0, 1001));
        Check.noNumber("least", () -> x.place(0, Integer.MIN_VALUE));
        Check.noNumber("most", () -> x.place(0, Integer.MAX_VALUE));
    }

    /** "LED: .. how many ago; none"; "HITTER: .. of several the least; none". */
    private static void ledAndHitter() {
        ForgetWar x = Check.told("memory 1;memory 1;soldier 0 1;soldier 1 1;soldier 1 1;soldier 0 1;knows 0 0 1;knows 1 1 0;book 1 0");
        Check.same("none", x.led(1, 0), ForgetWar.NONE);
        Check.same("none", x.hitter(), ForgetWar.NONE);
        Check.same("none", x.log(0, 0), ForgetWar.NONE);
        x.shoot(3, 1, false);
        Check.same("the latest", x.led(1, 0), 0);
        Check.same("another memory", x.led(1, 1), ForgetWar.NONE);
        Check.same("another one's", x.led(0, 0), ForgetWar.NONE);
        Check.same("by 3", x.hitter(), 3);
        x.shoot(2, 0, false);
        Check.same("of several the least", x.hitter(), 2);
        x.read(1);
        x.shoot(0, 1, false);
        Check.same("of several the least", x.hitter(), 0);
        Check.same("of two rows the latest", x.led(1, 0), 0);
        x.shoot(2, 0, false);
        Check.same("one ago", x.led(1, 0), 1);
        Check.same("most", x.hitter(), 2);
        Check.same("beyond", x.log(4, 0), ForgetWar.NONE);
        Check.same("below", x.log(-1, 0), ForgetWar.NONE);
    }

    /** known: "NONE"; count: "NONE for another what". */
    private static void knownAndCounted() {
        ForgetWar x = Check.told("memory 1;memory 1;soldier 0 1;soldier 0 1;knows 0 1 0;knows 1 0");
        Check.same("-1", x.known(0, -1), ForgetWar.NONE);
        Check.same("0", x.known(0, 0), 1);
        Check.same("1", x.known(0, 1), 0);
        Check.same("2", x.known(0, 2), ForgetWar.NONE);
        Check.same("most", x.known(0, Integer.MAX_VALUE), ForgetWar.NONE);
        Check.same("least", x.known(1, Integer.MIN_VALUE), ForgetWar.NONE);
        for (int what : new int[] {-1, 13, Integer.MIN_VALUE, Integer.MAX_VALUE}) {
            Check.same("count " + what, x.count(what), ForgetWar.NONE);
        }
        Check.same("count 12", x.count(12), 0);
        Check.same("known in all", x.count(7), 3);
    }
}
