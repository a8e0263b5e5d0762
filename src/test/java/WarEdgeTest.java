/**
 * The edges that the document's words on THE WAR and the TAPE name, in its order: a method a sentence.
 * A ^ stands ahead of the first wrong byte.
 */
final class WarEdgeTest {
    /** Two MEMORIES and a SOLDIER of each SIDE, for LINES that need them. */
    private static final String PAIR = "memory 1;memory 2;soldier 0 3;soldier 1 3;";
    private static final String[] WITH_NUMBERS = {
        "memory #", "memory 5 needs #", "memory 5 needs 0 #", "soldier # 3", "soldier 0 #", "soldier 0 1 #", "knows # 0",
        "knows 0 #", "knows 0 0 #", "book # 0", "book 0 #", "book 0 0 #", "order # 0", "order 0 #", "order 0 0 #",
        "plan # 0", "plan 0 #", "plan 0 0 #", "clash # 0", "clash 0 #"};

    public static void main(String[] args) {
        nobodyAtFirst();
        memoriesSixteen();
        worthOneToNinetyNine();
        needsOfLesserNumbers();
        soldiersTen();
        sideNoneOrOne();
        routeOneToSixPlaces();
        placesNoneToSeven();
        atTheFirstAtFirst();
        knowsTwelve();
        bookNoneAtFirst();
        ordersTen();
        planNoneAtFirst();
        textsTwelve();
        linesFourteen();
        thatThereIsByThen();
        clashOfTwo();
        knownAlready();
        bookAndPlanMore();
        numbersOfThreeDigits();
        numbersOutOfBounds();
        wordsAsLongAsLetters();
        wordsThatAreNone();
        blanksBetweenAll();
        emptyOrBlanksAlone();
        moreMustCome();
        nothingMoreMayCome();
        ofAWrongTextNothingStays();
        faultOfTheLatest();
        tapeOfFourHundred();
        endOfTheTape();
        Check.close("WarEdgeTest");
    }

    /** "Nobody." */
    private static void nobodyAtFirst() {
        ForgetWar x = new ForgetWar();
        Check.same("memories, soldiers, orders", x.count(0) + x.count(1) + x.count(2), 0);
        Check.outOfBounds("memory 0", () -> x.memory(0, 0));
        Check.outOfBounds("soldier 0", () -> x.soldier(0, 0));
        Check.outOfBounds("order 0", () -> x.order(0, 0));
        Check.outOfBounds("thing 0", () -> x.field(0, 0));
        Check.same("hour", x.count(5), 0);
        Check.same("draws", x.seed(0), 1);
    }

    /** "MEMORIES (at most 16, numbered from 0 on)"; "of a MEMORY .. too many, the first word". */
    private static void memoriesSixteen() {
        ForgetWar x = Check.told(Check.times("memory 1", 13) + ";memory 77");
        Check.war(x, "memory 98;memory 99 needs 14");
        Check.same("the 16th", x.memory(15, 0), 99);
        Check.same("its needs", x.memory(15, 1), 1 << 14);
        Check.outOfBounds("a 17th", () -> x.memory(16, 0));
        Check.badWar(x, "^memory 1");
        Check.badWar(x, "^memory");
        Check.badWar(x, "plan 0 15; ^memory 0");
        Check.same("still 16", x.count(0), 16);
        Check.badWar("memory 1;" + Check.times("memory 1", 13) + ";^memory 1");
    }

    /** "WORTH 1 to 99". */
    private static void worthOneToNinetyNine() {
        Check.badWar("memory ^0");
        Check.badWar("memory ^000");
        Check.badWar("memory ^100");
        Check.badWar("memory ^999");
        Check.same("1", Check.told("memory 1").memory(0, 0), 1);
        Check.same("99", Check.told("memory 99").memory(0, 0), 99);
        Check.same("all the worth", Check.told("memory 99;memory 98;memory 1 needs 0;soldier 0 0;knows 0 0 1").soldier(0, 7), 197);
    }

    /** "NEEDS: MEMORIES of lesser numbers". */
    private static void needsOfLesserNumbers() {
        Check.badWar("memory 1 needs ^0");
        Check.badWar("memory 1;memory 1 needs ^1");
        Check.badWar("memory 1;memory 1 needs 0 ^1");
        Check.badWar("memory 1;memory 1 needs ^2;memory 1");
        Check.same("the next lesser", Check.told("memory 1;memory 1;memory 1 needs 1").memory(2, 1), 2);
        Check.same("none at first", Check.told("memory 1").memory(0, 1), 0);
    }

    /** "SOLDIERS (at most 10, numbered from 0 on)"; "of a .. SOLDIER .. too many, the first word". */
    private static void soldiersTen() {
        ForgetWar x = Check.told(Check.times("soldier 0 1", 9) + ";soldier 1 7");
        Check.same("the 10th", x.soldier(9, 1), 7);
        Check.outOfBounds("an 11th", () -> x.soldier(10, 1));
        Check.badWar(x, "^soldier 0 1");
        Check.badWar(x, "^soldier");
        Check.badWar(x, "memory 1;knows 9 0; ^soldier 2");
        Check.same("still 10", x.count(1), 10);
        Check.badWar(Check.times("soldier 0 1", 10) + ";^soldier 1 1");
    }

    /** "a SIDE 0 or 1". */
    private static void sideNoneOrOne() {
        Check.same("0", Check.told("soldier 0 1").soldier(0, 0), 0);
        Check.same("1", Check.told("soldier 1 1").soldier(0, 0), 1);
        Check.badWar("soldier ^2 1");
        Check.badWar("memory 1;plan ^2 0");
        ForgetWar x = Check.told(PAIR + "plan 0 0;plan 1 1");
        Check.same("plan of 0", x.plan(0, false), 1);
        Check.same("plan of 1", x.plan(1, false), 2);
    }

    /** "a ROUTE: 1 to 6 PLACES"; "a 7th P is" wrong. */
    private static void routeOneToSixPlaces() {
        Check.badWar("soldier 0^");
        Check.badWar("soldier 0 ^;soldier 0 1");
        ForgetWar x = Check.told("soldier 0 4;soldier 1 0 1 2 3 4 5");
        Check.same("one", x.soldier(0, 6), 1);
        Check.same("six", x.soldier(1, 6), 6);
        Check.same("the sixth", x.place(1, 5), 5);
        Check.badWar("soldier 0 0 1 2 3 4 5 ^6");
        Check.badWar("soldier 0 0 1 2 3 4 5 ^6 7");
        Check.badWar("soldier 0 0 1 2 3 4 5 ^8");
    }

    /** "(0 to 7)". */
    private static void placesNoneToSeven() {
        ForgetWar x = Check.told("soldier 0 0;soldier 0 7");
        Check.same("0", x.soldier(0, 1), 0);
        Check.same("7", x.soldier(1, 1), 7);
        Check.badWar("soldier 0 ^8");
        Check.badWar("soldier 0 7 0 ^8");
    }

    /** "one is at the first at first": also who comes late. */
    private static void atTheFirstAtFirst() {
        ForgetWar x = Check.told("soldier 0 6 5 4");
        Check.same("at the first", x.soldier(0, 1), 6);
        x.hours(1);
        Check.war(x, "soldier 0 6 5 4");
        Check.same("gone on", x.soldier(0, 1), 5);
        Check.same("late", x.soldier(1, 1), 6);
    }

    /** "KNOWS: .. (at most 12)"; "a 13th, is wrong". */
    private static void knowsTwelve() {
        String sixteen = Check.times("memory 1", 14);
        ForgetWar x = Check.told(sixteen);
        Check.war(x, "memory 1;memory 1;soldier 0 1;soldier 0 1;knows 0 15 14 13 12 11 10 9 8 7 6 5 4");
        Check.same("12", x.soldier(0, 2), 12);
        Check.same("the 12th", x.known(0, 11), 4);
        Check.same("no 13th", x.known(0, 12), ForgetWar.NONE);
        Check.badWar(x, "knows 0 ^3");
        Check.badWar(x, "knows 0 ^4");
        Check.badWar(x, "knows 1 0 1 2 3 4 5 6 7 8 9 10 11 ^12");
        Check.badWar(x, "knows 1 0 1 2 3 4 5 6 7 8 9 10;knows 1 11 ^12");
        Check.war(x, "knows 1 0 1 2 3 4 5 6 7 8 9 10");
        Check.badWar(x, "knows 1 11 ^12");
        Check.war(x, "knows 1 11");
        Check.same("12 by and by", x.soldier(1, 3), (1 << 12) - 1);
        Check.same("in the order in which they came", x.known(1, 11), 11);
    }

    /** "a BOOK: MEMORIES, as bits (none at first)". */
    private static void bookNoneAtFirst() {
        Check.same("none", Check.told("memory 1;soldier 0 1").soldier(0, 5), 0);
        ForgetWar x = Check.told("memory 1;soldier 0 1;soldier 0 1;book 1 0");
        Check.same("another one's", x.soldier(0, 5), 0);
        Check.same("one's own", x.soldier(1, 5), 1);
    }

    /** "ORDERS (at most 10, numbered from 0 on)"; "of a .. ORDER too many, the first word". */
    private static void ordersTen() {
        ForgetWar x = Check.told("memory 1;memory 1;soldier 0 1;" + Check.times("order 0 0", 9));
        Check.war(x, "order 0 1");
        Check.same("the 10th", x.order(9, 1), 2);
        Check.outOfBounds("an 11th", () -> x.order(10, 1));
        Check.badWar(x, "^order 0 0");
        Check.badWar(x, "^order");
        Check.badWar(x, "plan 0 0; ^order 0");
        Check.same("still 10", x.count(2), 10);
        Check.badWar("memory 1;soldier 0 1;" + Check.times("order 0 0", 10) + ";^order 0 0");
    }

    /** "PLAN of a SIDE: MEMORIES, as bits (none at first)". */
    private static void planNoneAtFirst() {
        ForgetWar x = Check.told("memory 1;plan 1 0");
        Check.same("none", x.plan(0, false), 0);
        Check.same("none is lost", x.plan(0, true), 0);
        Check.same("of the other side", x.plan(1, false), 1);
    }

    /** "in texts (at most 12, one behind another)"; "UnsupportedOperationException: there are 12". */
    private static void textsTwelve() {
        ForgetWar x = new ForgetWar();
        for (int k = 1; k <= 11; k++) {
            Check.same("text " + k, Check.war(x, k % 2 == 0 ? "" : "memory " + k), k);
        }
        Check.badWar(x, "memory ^0");
        Check.same("a wrong one is none", x.count(3), 11);
        Check.same("the 12th", Check.war(x, "memory 12"), 12);
        Check.tell(x, "memory 13");
        Check.throwsA(UnsupportedOperationException.class, "the 13th", () -> x.war());
        Check.same("nothing of it stays", x.count(0), 7);
        Check.same("12", x.count(3), 12);
        Check.no("its tape is used up", x.end(1));
        Check.tell(x, "memory");
        Check.noNumber("wrong comes first", () -> x.war());
        Check.same("its fault", x.fault(), 6);
        Check.tell(x, "memory 13");
        Check.throwsA(UnsupportedOperationException.class, "the 13th", () -> x.war());
        Check.same("a right one that is refused", x.fault(), ForgetWar.NONE);
        Check.same("a law all the same", Check.law(x, "read"), 1);
    }

    /** "LINE { ; LINE }, at most 14"; "of a LINE too many .. the first word". */
    private static void linesFourteen() {
        Check.same("14", Check.told(Check.times("memory 1", 14)).count(0), 14);
        Check.badWar(Check.times("memory 1", 14) + ";^memory 1");
        Check.badWar(Check.times("memory 1", 14) + " ;  ^soldier 0 1");
        Check.badWar(Check.times("memory 1", 14) + ";^what");
        Check.badWar(Check.times("memory 1", 14) + ";^");
        Check.badWar(Check.times("memory 1", 14) + " ^memory 1");
        ForgetWar x = Check.told(Check.times("memory 1", 14));
        Check.same("in each text anew", Check.war(x, Check.times("clash 0 1", 14)), 2);
    }

    /** "M: a MEMORY, D: a SOLDIER that there is by then". */
    private static void thatThereIsByThen() {
        String[] marked = {"knows ^0 0", "book ^0 0", "order ^0 0"};
        for (String line : marked) {
            Check.badWar("memory 1;" + line + ";soldier 0 1");
            Check.same(line, Check.told("memory 1;soldier 0 1;" + line.replace("^", "")).count(3), 1);
        }
        String[] memories = {"knows 0 ^1", "book 0 ^1", "book 0 0 ^1", "order 0 ^1", "plan 0 ^1", "clash ^1 0", "clash 0 ^1"};
        for (String line : memories) {
            Check.badWar("memory 1;soldier 0 1;" + line + ";memory 1");
            Check.same(line, Check.told("memory 1;soldier 0 1;memory 1;" + line.replace("^", "")).count(3), 1);
        }
        Check.badWar("memory 1;soldier 0 1;soldier 0 1;knows ^2 0;soldier 0 1");
    }

    /** "the two of clash not the same: else the latter is wrong". */
    private static void clashOfTwo() {
        Check.badWar("memory 1;memory 1;clash 0 ^0");
        Check.badWar("memory 1;memory 1;clash 1 ^1");
        Check.badWar("memory 1;memory 1;clash 1 ^001");
        Check.badWar("memory 1;clash ^2 2");
        ForgetWar x = Check.told("memory 1;memory 1;memory 1;clash 2 0;clash 0 2");
        Check.same("of both", x.memory(0, 7), 4);
        Check.same("of both", x.memory(2, 7), 1);
        Check.same("of none", x.memory(1, 7), 0);
    }

    /** "of knows one that is known already .. is wrong". */
    private static void knownAlready() {
        Check.badWar(PAIR + "knows 0 0 ^0");
        Check.badWar(PAIR + "knows 0 0 1 ^1");
        Check.badWar(PAIR + "knows 0 1;knows 0 0 ^1");
        ForgetWar x = Check.told(PAIR + "knows 0 1");
        Check.badWar(x, "knows 0 ^1");
        Check.badWar(x, "knows 1 1 0;knows 0 0 ^1");
        Check.same("by another one", Check.war(x, "knows 1 1"), 2);
        x.shoot(0, 1, false);
        Check.same("forgotten again", Check.war(x, "knows 1 0 1"), 3);
        Check.same("the latest", x.known(1, 1), 1);
    }

    /** "of book, plan: MEMORIES more". */
    private static void bookAndPlanMore() {
        ForgetWar x = Check.told("memory 1;memory 1;memory 1;soldier 0 1;book 0 2;book 0 0 2 0;plan 0 1;plan 1 2;plan 0 2 1");
        Check.same("book", x.soldier(0, 5), 5);
        Check.same("plan 0", x.plan(0, false), 6);
        Check.war(x, "book 0 1;plan 1 0");
        Check.same("book", x.soldier(0, 5), 7);
        Check.same("plan 1", x.plan(1, false), 5);
    }

    /** "All numbers are of 1 to 3 digits"; "a number of more digits". */
    private static void numbersOfThreeDigits() {
        for (String line : WITH_NUMBERS) {
            for (String number : new String[] {"1", "01", "001"}) {
                String told = line.replace("#", number);
                Check.same(told, Check.told(PAIR + told).count(3), 1);
            }
            for (String number : new String[] {"0001", "0000", "1000", "00000000001", "4294967297"}) {
                Check.badWar(PAIR + line.replace("#", "^" + number));
            }
        }
    }

    /** "or out of its bounds, or that tells none that can be". */
    private static void numbersOutOfBounds() {
        for (String line : WITH_NUMBERS) {
            Check.badWar(PAIR + line.replace("#", line.equals("memory #") ? "^0" : line.startsWith("soldier 0") ? "^8" : "^2"));
            Check.badWar(PAIR + line.replace("#", "^256"));
            Check.badWar(PAIR + line.replace("#", "^-1"));
            Check.badWar(PAIR + line.replace("#", "^x"));
        }
    }

    /** "Words are as long as a to z go on". */
    private static void wordsAsLongAsLetters() {
        Check.badWar("^memorymemory 1");
        Check.badWar("^memoryneeds 1");
        Check.badWar("memory 1;memory 1 ^needsneeds 0");
        Check.badWar("^mem ory 1");
        Check.badWar("^mem1ory 1");
        ForgetWar x = Check.told("memory1;memory2needs0;soldier1 2 3;knows0 1 0;plan1 1");
        Check.same("worth", x.memory(1, 0), 2);
        Check.same("needs", x.memory(1, 1), 1);
        Check.same("known", x.soldier(0, 3), 3);
        Check.badWar("memory 1;memory 1^Needs 0");
    }

    /** "a word that is none". */
    private static void wordsThatAreNone() {
        for (String word : new String[] {"Memory", "memor", "memoryy", "aim", "good", "read", "needs", "if", "m", "zzz"}) {
            Check.badWar("^" + word + " 1");
            Check.badWar("memory 1;^" + word + " 1");
        }
        for (String sign : new String[] {";", "1", "(", "\u0000", "\u00ff", "`", "{", "A"}) {
            Check.badWar("^" + sign + "memory 1");
            Check.badWar("memory 1;^" + sign);
        }
    }

    /** "between all there may be blanks (32), also ahead and behind". */
    private static void blanksBetweenAll() {
        ForgetWar x = Check.told("    memory    9    ;    memory 8   needs   0   ;soldier   1   2   3  ;clash   0   1   ");
        Check.same("all the same", x.memory(1, 1) + x.memory(0, 7) + x.place(0, 1), 6);
        for (char other : new char[] {0, 9, 10, 11, 12, 13, 31, 33, 160}) {
            Check.badWar("^" + other + "memory 9");
            Check.badWar("memory^" + other + "9");
            Check.badWar("memory 9^" + other);
            Check.badWar("memory 9;^" + other + "memory 9");
        }
        Check.badWar("memory 1 ^2");
        Check.badWar("soldier 0 1 ^memory 1");
    }

    /** "A text that is empty, or blanks alone, has no LINE". */
    private static void emptyOrBlanksAlone() {
        ForgetWar x = new ForgetWar();
        Check.same("empty", Check.war(x, ""), 1);
        Check.same("a blank", Check.war(x, " "), 2);
        Check.same("400 blanks", Check.war(x, " ".repeat(400)), 3);
        Check.same("no fault", x.fault(), ForgetWar.NONE);
        Check.same("nothing came", x.count(0) + x.count(1) + x.count(2), 0);
        Check.badWar("^;");
        Check.badWar("  ^;  ");
    }

    /** "or the text's length, if more must come". */
    private static void moreMustCome() {
        for (String begun : new String[] {"memory", "memory 1;", "memory 1;memory 1 needs", "soldier", "soldier 0", "knows", "knows 0",
            "book", "book 0", "order", "order 0", "plan", "plan 0", "clash", "clash 0"}) {
            Check.badWar(begun.startsWith("memory") ? begun + "^" : PAIR + begun + "^");
            Check.badWar(begun.startsWith("memory") ? begun + "   ^" : PAIR + begun + "   ^");
        }
    }

    /** "the begin of the first thing that cannot stand there": where a LINE is whole, but a ; or what goes on. */
    private static void nothingMoreMayCome() {
        for (String whole : new String[] {"memory 1", "memory 1 needs 0", "soldier 0 1", "knows 0 0", "book 0 0", "order 0 0", "plan 0 0", "clash 0 1"}) {
            Check.badWar(PAIR + whole + " ^memory");
            Check.badWar(PAIR + whole + "^,");
            Check.badWar(PAIR + whole + ";^;");
        }
        Check.badWar(PAIR + "memory 1 ^0 needs 0");
        Check.badWar(PAIR + "memory 1 needs 0 ^needs 1");
        Check.badWar(PAIR + "clash 0 1 ^0");
        Check.badWar(PAIR + "memory ^needs 0");
        Check.badWar(PAIR + "memory 1 needs ^;");
    }

    /** "Of a wrong text nothing stays". */
    private static void ofAWrongTextNothingStays() {
        ForgetWar x = Check.told(PAIR + "knows 0 0;order 0 0;plan 0 0;clash 0 1;book 0 0");
        String before = Snapshot.of(x);
        Check.badWar(x, "memory 9;soldier 1 2 3;knows 0 1;knows 2 2;book 0 1;order 1 1;plan 0 1;plan 1 0;clash 2 0;^wrong");
        Check.alike("behind a wrong text", Snapshot.of(x), before);
        Check.badWar(x, "memory 9 needs 0 1;soldier 0 1;knows 2 0 1;order 2 0;^");
        Check.alike("behind another one", Snapshot.of(x), before);
    }

    /** "The first wrong byte of the latest text that was read; NONE without one, and ahead of any". */
    private static void faultOfTheLatest() {
        ForgetWar x = new ForgetWar();
        Check.same("ahead of any", x.fault(), ForgetWar.NONE);
        Check.badWar(x, "memory ^0");
        Check.same("asked again", x.fault(), 7);
        Check.law(x, "read");
        Check.same("of the law", x.fault(), ForgetWar.NONE);
        Check.tell(x, "read if");
        Check.noNumber("more must come", () -> x.law());
        Check.same("of the law", x.fault(), 7);
        Check.war(x, "memory 1");
        Check.same("of a right one", x.fault(), ForgetWar.NONE);
    }

    /** "NONE, and none come, if it would have more than 400". */
    private static void tapeOfFourHundred() {
        ForgetWar x = new ForgetWar();
        Check.tell(x, "memory 7" + " ".repeat(391) + ";");
        Check.same("more than 400", x.feed(0, 0, 0, 0, 0), ForgetWar.NONE);
        Check.yes("all 400", x.end(400));
        Check.noNumber("one must come", () -> x.war());
        Check.same("the text's length", x.fault(), 400);
        Check.same("20 again", x.feed(0, 0, 0, 0, 0), 20);
        Check.tell(x, "memory 8" + " ".repeat(392));
        Check.same("400 bytes", x.war(), 1);
        Check.same("of them", x.memory(0, 0), 8);
        Check.tell(x, " ".repeat(391) + "memory 12");
        x.war();
        Check.same("the last bytes", x.memory(1, 0), 12);
        Check.tell(x, " ".repeat(380));
        Check.same("380 and 20", x.feed(-1, -1, -1, -1, -1), 400);
        x.end(381);
        Check.same("381 and 20", x.feed(-1, -1, -1, -1, -1), ForgetWar.NONE);
        Check.yes("still 381", x.end(381));
        Check.no("none came", x.end(382));
    }

    /** "false, and nothing happens, if it has fewer, or n is below 0". */
    private static void endOfTheTape() {
        ForgetWar x = new ForgetWar();
        Check.yes("0 of 0", x.end(0));
        Check.no("1 of 0", x.end(1));
        Check.tell(x, "memory 56");
        Check.no("10 of 9", x.end(10));
        Check.no("-1", x.end(-1));
        Check.no("least", x.end(Integer.MIN_VALUE));
        Check.no("most", x.end(Integer.MAX_VALUE));
        Check.yes("nothing happened: 9 of 9", x.end(9));
        Check.yes("8 alone", x.end(8));
        Check.no("the 9th is gone", x.end(9));
        x.war();
        Check.same("the first 8", x.memory(0, 0), 5);
    }
}
