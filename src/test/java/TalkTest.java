/** Promises 28 to 37: words that spread, amends, treaties, whose memories can be, trials, spans, meetings. */
final class TalkTest {
    public static void main(String[] args) {
        spreads();
        soonest();
        mutes();
        amends();
        treaties();
        agreements();
        matches();
        matchesBefore();
        trials();
        spans();
        meets();
        Check.close("TalkTest");
    }

    private static void spreads() {
        ForgetWar x = Check.told("memory 1;memory 1 needs 0;soldier 0 1;soldier 0 1 2;soldier 1 1;soldier 0 2 3;soldier 0 3 4 5;soldier 0 7;knows 0 0;knows 2 0;knows 3 1");
        Check.same("in the place now", x.spread(0, 0, 0), 3);
        Check.same("they pass by", x.spread(0, 0, 1), 3);
        Check.same("and again", x.spread(0, 0, 2), 3);
        Check.war(x, "soldier 0 6 1 3 4");
        Check.same("1: who comes", x.spread(0, 0, 1), 67);
        Check.same("2: 3 and 5", x.spread(0, 0, 2), 67);
        Check.same("3: 4 and 3", x.spread(0, 0, 3), 67);
        Check.same("6: 3 and 3", x.spread(0, 0, 6), 67 | 16);
        Check.same("9: 3 and 3", x.spread(0, 0, 9), 67 | 16 | 8);
        Check.same("60: never him at 7", x.spread(0, 0, 60), 67 | 16 | 8);
        Check.same("the other side", x.spread(0, 1, 60), 4);
        Check.same("known, but not usable", x.spread(1, 0, 60), 0);
        Check.noNumber("61", () -> x.spread(0, 0, 61));
        Check.noNumber("-1", () -> x.spread(0, 0, -1));
        Check.outOfBounds("memory", () -> x.spread(2, 0, 61));
        Check.outOfBounds("side", () -> x.spread(0, 2, 61));
        Check.outOfBounds("below", () -> x.spread(0, -1, 0));
    }

    private static void soonest() {
        ForgetWar x = Check.told("soldier 0 1;soldier 0 1 2;soldier 0 3 2 4;soldier 1 1;soldier 0 7;soldier 0 0 0 0 0 0 2;soldier 0 5 5 5 5 2");
        Check.same("the same", x.soonest(4, 4), 0);
        Check.same("in the place now", x.soonest(0, 1), 0);
        Check.same("1", x.soonest(1, 2), 1);
        Check.same("by another one", x.soonest(0, 2), 1);
        Check.same("5", x.soonest(1, 5), 5);
        Check.same("nobody's route", x.soonest(0, 4), -1);
        Check.noNumber("unlike sides", () -> x.soonest(0, 3));
        Check.outOfBounds("no soldier", () -> x.soonest(7, 3));
        Check.outOfBounds("no other", () -> x.soonest(0, -1));
        x.hours(4);
        Check.same("from now", x.soonest(1, 5), 1);
        String chain = "memory 1;soldier 0 0 0 0 0 1;knows 0 0;soldier 0 4 4 4 4 2 1;";
        ForgetWar y = Check.told(chain + "soldier 0 3 5 5 2 5;soldier 0 3 6 6 6 6 6");
        Check.same("29", y.soonest(0, 1), 29);
        Check.same("58", y.soonest(0, 2), 58);
        Check.same("60", y.soonest(0, 3), 60);
        Check.same("behind 57", y.spread(0, 0, 57), 3);
        Check.same("behind 59", y.spread(0, 0, 59), 7);
        Check.same("behind 60", y.spread(0, 0, 60), 15);
        ForgetWar z = Check.told(chain + "soldier 0 5 3 5 2 5;soldier 0 6 3 6 6 6 6");
        Check.same("61 is none", z.soonest(0, 3), -1);
        z.hours(1);
        Check.same("60 from now", z.soonest(0, 3), 60);
    }

    private static void mutes() {
        ForgetWar x = Check.told("memory 1;memory 1;soldier 0 1;soldier 0 1 2;soldier 0 2;soldier 0 2 2;knows 0 0;knows 1 1;knows 2 1;soldier 1 1;knows 4 1");
        Check.same("the first alone", x.mute(0, 0), 1);
        Check.same("two know it: who bears it on", x.mute(1, 0), 2);
        Check.same("they hear all the same", x.spread(1, 0, 12), 15);
        Check.same("all to whom it is usable", x.mute(1, 1), -2);
        Check.same("nobody hears it anyhow", x.mute(0, 1), 0);
        ForgetWar y = Check.told("memory 1;soldier 0 1;knows 0 0");
        Check.same("a side without soldiers", y.mute(0, 1), -2);
        Check.outOfBounds("memory", () -> y.mute(1, 0));
        Check.outOfBounds("side", () -> y.mute(0, 2));
        ForgetWar z = Check.told("memory 1;soldier 0 1 1 1 1 1 2;soldier 0 3 3 3 3 2;soldier 0 1;soldier 0 1;soldier 0 1;knows 2 0;knows 3 0;knows 4 0");
        Check.same("behind 12 hours they have not met", z.mute(0, 0), 0);
        ForgetWar w = Check.told("memory 1;soldier 0 1;soldier 0 1;soldier 0 1;knows 0 0;knows 2 0");
        Check.same("both must be silent", w.mute(0, 0), 5);
        ForgetWar v = Check.told("memory 1;soldier 0 1 2 2 2 2 2;soldier 0 3 3 3 3 3 3;soldier 0 3;knows 0 0");
        Check.same("never", v.mute(0, 0), 0);
        ForgetWar u = Check.told("memory 1;soldier 0 1 1 1 2;soldier 0 3 3 2;knows 0 0");
        Check.same("in 11 hours", u.soonest(0, 1), 11);
        Check.same("within 12 hours", u.mute(0, 0), 1);
    }

    private static void amends() {
        ForgetWar x = Check.told("memory 1;memory 1;memory 1 needs 0;memory 1 needs 1;memory 1;soldier 0 1;soldier 0 1;soldier 0 1;clash 2 3;clash 4 1;knows 0 0 1 2 3 4;knows 1 2 3;knows 2 0 2 3");
        Check.same("of several the least", x.amends(0), 2);
        Check.same("nothing usable clashes", x.amends(1), 0);
        Check.same("nothing usable clashes", x.amends(2), 0);
        Check.war(x, "clash 0 1;clash 0 4;knows 1 4 0");
        Check.same("two", x.amends(0), 3);
        Check.same("the least of two ones", x.amends(1), 1);
        Check.outOfBounds("no soldier", () -> x.amends(3));
        Check.outOfBounds("below", () -> x.amends(-1));
    }

    private static void treaties() {
        ForgetWar x = Check.told("memory 1;memory 1;memory 1 needs 1;memory 1;soldier 0 1;soldier 0 1;soldier 1 1;soldier 1 1;knows 0 0 1 2;knows 1 0 3;knows 2 0 1;knows 3 0 2");
        Check.same("agreed", x.agreed(), 3);
        Check.same("binds", x.treaty(3, false), 1);
        Check.same("by one", x.treaty(3, true), 1);
        Check.same("by two", x.treaty(1, true), 2);
        Check.same("does not bind", x.treaty(5, false), 0);
        Check.same("not to be undone", x.treaty(5, true), 0);
        Check.same("of none", x.treaty(0, false), 1);
        Check.same("of none", x.treaty(0, true), -1);
        Check.same("what is none counts for nothing", x.treaty(-16, true), -1);
        Check.same("what is none counts for nothing", x.treaty(16 | 1, true), 2);
        Check.same("what is none counts for nothing", x.treaty(Integer.MIN_VALUE | 2, false), 1);
        Check.same("all", x.treaty(-1, false), 0);
    }

    private static void agreements() {
        ForgetWar x = Check.told("memory 1;memory 1;memory 1;memory 1 needs 0;soldier 0 1;soldier 1 1;soldier 1 1;knows 0 0 1 3;knows 1 1 2;knows 2 3 1");
        Check.same("usable on both sides alone", x.agreed(), 2);
        Check.same("what side 1 has not", x.treaty(3, false), 0);
        Check.same("what side 0 has not", x.treaty(6, false), 0);
        Check.same("of side 0", x.treaty(2, true), 1);
        x.shoot(0, 1, false);
        x.shoot(0, 1, false);
        Check.same("not usable", x.treaty(8, false), 0);
        Check.same("of the other side", x.treaty(2, true), 1);
    }

    private static int matches(ForgetWar x, String told, int place, int k) {
        Check.tell(x, told);
        return x.matches(place, k);
    }

    private static void matches() {
        ForgetWar x = Check.told("memory 1;memory 1;memory 1;soldier 0 1;soldier 1 1;soldier 0 1;soldier 0 2;knows 0 0;knows 1 1;knows 2 2");
        Check.same("of none", matches(x, "", 1, -1), 1);
        Check.noNumber("the first of none", () -> matches(x, "", 1, 0));
        Check.same("two who do not know it", matches(x, "\0", 1, -1), 2);
        Check.same("the least", matches(x, "\0", 1, 0), 1);
        Check.same("one elsewhere", matches(x, "\0", 2, -1), 1);
        Check.same("nobody", matches(x, "\0", 3, -1), 0);
        Check.same("nobody", matches(x, "\0", 3, 0), -1);
        Check.same("both", matches(x, "\0\1", 1, -1), 3);
        Check.same("0 to 1", matches(x, "\0\1", 1, 0), 1);
        Check.same("1 to 0", matches(x, "\0\1", 1, 1), 0);
        Check.same("all three", matches(x, "\0\1\2", 1, -1), 2);
        Check.same("0 to 1", matches(x, "\0\1\2", 1, 0), 1);
        Check.same("1 to 2", matches(x, "\0\1\2", 1, 1), 2);
        Check.same("2 to 0", matches(x, "\0\1\2", 1, 2), 0);
        Check.same("one twice", matches(x, "\0\0", 1, -1), 2);
        Check.same("thrice is too often", matches(x, "\0\0\0", 1, -1), 0);
        Check.same("thrice is too often", matches(x, "\0\0\0", 1, 2), -1);
        Check.noNumber("no memory", () -> matches(x, "\3", 1, -1));
        Check.noNumber("no memory", () -> matches(x, "\0\u00ff", 1, -1));
        Check.same("8", matches(x, "\0\0\0\0\0\0\0\0", 1, 7), -1);
        Check.noNumber("9", () -> matches(x, "\0\0\0\0\0\0\0\0\0", 1, -1));
        Check.noNumber("k is none", () -> matches(x, "\0\1", 1, 2));
        Check.noNumber("k is none", () -> matches(x, "\0\1", 1, -2));
        Check.outOfBounds("no place", () -> matches(x, "\3", 8, -1));
        Check.outOfBounds("below", () -> matches(x, "\0", -1, 7));
        ForgetWar y = Check.told("memory 1;soldier 0 1;soldier 0 1;soldier 0 1;soldier 0 1;soldier 0 1;soldier 0 1;soldier 0 1;soldier 0 1;soldier 0 1;soldier 0 1");
        Check.same("10 to 3", matches(y, "\0\0\0\0\0\0\0\0", 1, -1), 1814400);
        Check.same("the eighth", matches(y, "\0\0\0\0\0\0\0\0", 1, 7), 7);
        ForgetWar z = Check.told("memory 1;memory 1;soldier 0 1;soldier 0 1;knows 1 1");
        Check.same("the first must leave the second", matches(z, "\0\1", 1, 0), 1);
        Check.same("the first must leave the second", matches(z, "\0\1", 1, 1), 0);
    }

    private static void matchesBefore() {
        ForgetWar x = Check.told("memory 1;soldier 0 1 2 3;soldier 0 4");
        Check.same("now", matches(x, "\0", 1, -1), 1);
        Check.same("not yet", matches(x, "\0", 2, -1), 0);
        x.hours(1);
        Check.same("was there", matches(x, "\0", 1, -1), 1);
        Check.same("is there", matches(x, "\0", 2, -1), 1);
        Check.same("not yet", matches(x, "\0", 3, -1), 0);
        Check.war(x, "soldier 1 5 6 7 5");
        Check.same("as if one had always gone on", matches(x, "\0", 5, -1), 1);
        Check.same("not so long ago", matches(x, "\0", 7, -1), 0);
        Check.same("not yet", matches(x, "\0", 6, -1), 0);
        x.hours(1);
        Check.same("2 hours ago", matches(x, "\0", 5, 0), 2);
        Check.same("all of the route", matches(x, "\0", 3, -1), 1);
        ForgetWar y = Check.told("memory 1;soldier 0 0 1 2 3 4 5");
        for (int hour = 0; hour < 9; hour++) {
            for (int place = 0; place < 8; place++) {
                Check.same("hour " + hour + " place " + place, matches(y, "\0", place, -1), place <= hour && place < 6 ? 1 : 0);
            }
            y.hours(1);
        }
    }

    private static void trials() {
        ForgetWar x = Check.told("memory 1;memory 1 needs 0;memory 1;soldier 0 1;soldier 1 2 2 1;knows 0 0 1;knows 1 2;order 0 1;order 1 2;order 1 0");
        Check.law(x, "aim 100;good 100");
        Check.same("known", x.trial(0, 0), 3);
        Check.same("usable", x.trial(0, 1), 3);
        Check.same("obeyed", x.trial(0, 2), 3);
        Check.same("none behind 0", x.trial(0, 3), -1);
        Check.same("they pass by", x.trial(1, 0), 3);
        Check.same("none behind 1", x.trial(1, 3), -1);
        Check.same("behind 2", x.trial(2, 3), 2);
        Check.same("at the first", x.trial(60, 3), 2);
        Check.same("known", x.trial(2, 0), 2);
        Check.same("usable", x.trial(2, 1), 2);
        Check.same("obeyed", x.trial(2, 2), 1);
        Check.same("nothing stays", x.count(5) + x.count(9) + x.count(12), 0);
        Check.same("nor the draws", x.seed(1), 1);
        Check.noNumber("61", () -> x.trial(61, 9));
        Check.noNumber("-1", () -> x.trial(-1, 0));
        Check.noElement("what 4", () -> x.trial(0, 4));
        Check.noElement("what -1", () -> x.trial(60, -1));
        ForgetWar y = Check.told("memory 1;memory 1;memory 1;memory 1;soldier 0 1;soldier 1 1;knows 0 0 1 2 3;knows 1 0 1 2 3");
        int known = y.trial(5, 0);
        y.hours(5);
        Check.same("as the hours then go", y.count(7), known);
        y.seed(99);
        int usable = y.trial(9, 1);
        y.hours(9);
        Check.same("from the seed there is", y.count(8), usable);
        ForgetWar z = Check.told("memory 1;soldier 0 1;soldier 1 1;knows 0 0;knows 1 0;book 1 0;order 1 0");
        Check.law(z, "aim 100;read");
        Check.same("read again within the hour", z.trial(1, 3), -1);
    }

    private static void spans() {
        ForgetWar x = Check.told("memory 1;memory 1 needs 0;memory 1;soldier 0 1;soldier 0 1;soldier 1 1;knows 0 0 1 2;knows 1 2 1;knows 2 0 1 2");
        Check.same("of the side", x.span(0, 0, true), 4);
        Check.same("of the side", x.span(0, 0, false), 4);
        Check.same("of the other side", x.span(1, 0, false), 3);
        x.seed(77);
        for (int n = 0; n <= 24; n += 4) {
            int few = 99;
            int most = -1;
            for (int from = 1; from <= 6; from++) {
                x.seed(from);
                if (n > 0) {
                    x.hours(n);
                }
                int usable = Integer.bitCount(x.soldier(0, 4)) + Integer.bitCount(x.soldier(1, 4));
                if (n > 0) {
                    x.undo();
                }
                few = Math.min(few, usable);
                most = Math.max(most, usable);
            }
            Check.same("fewest behind " + n, x.span(0, n, false), few);
            Check.same("most behind " + n, x.span(0, n, true), most);
        }
        Check.same("the seed stays", x.seed(1), 6);
        Check.noNumber("25", () -> x.span(0, 25, true));
        Check.noNumber("-1", () -> x.span(0, -1, true));
        Check.outOfBounds("side 2", () -> x.span(2, 25, true));
        Check.outOfBounds("side -1", () -> x.span(-1, 0, true));
    }

    private static void meets() {
        ForgetWar x = Check.told("soldier 0 1 2 3 4 5;soldier 1 0 0 0 0 0 1;soldier 1 5 1 2 3 4;soldier 0 1");
        Check.same("now", x.meets(0, 3), 0);
        Check.same("when 1 comes to 1: 5, 11, 17, 23, 29", x.meets(0, 1), 5);
        Check.same("behind one another", x.meets(0, 2), -1);
        x.hours(3);
        Check.same("the hour, not how far", x.meets(0, 3), 5);
        Check.same("the same", x.meets(3, 0), 5);
        ForgetWar y = Check.told("soldier 0 1 0 0 0 0;soldier 1 7 7 7 1 7 7");
        Check.same("15", y.meets(0, 1), 15);
        y.hours(16);
        Check.same("45", y.meets(1, 0), 45);
        Check.noNumber("both are one", () -> x.meets(1, 1));
        Check.outOfBounds("no soldier", () -> x.meets(4, 4));
        Check.outOfBounds("below", () -> x.meets(0, -1));
    }
}
