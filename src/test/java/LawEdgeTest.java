/** The edges that the document's words on THE LAW name, in its order: a method a sentence; a ^ as in WarEdgeTest. */
final class LawEdgeTest {
    /** The SOLDIER numbered 2 stands at 5 among 5 foes, and will know 3, of which 2 are USABLE. */
    private static final String FIELD = "memory 1;memory 1 needs 0;memory 1;memory 1 needs 2;soldier 1 5;soldier 0 7;soldier 1 5;"
        + Check.times("soldier 0 5", 5) + ";knows 2 0 1;knows 0 1";

    public static void main(String[] args) {
        linesTwelve();
        inPlaceOfTheOneBefore();
        numbersOfThreeDigits();
        numbersUpToTheirBounds();
        whatAComparisonIs();
        whatASumIs();
        whatAnAtomIs();
        hundredAtMost();
        withoutAText();
        withoutALine();
        readsOfSomeLine();
        aloneOfOnesOwnSide();
        foesInThePlace();
        sixDeep();
        andBindsCloser();
        wordsAndBlanks();
        moreMustCome();
        ofAWrongTextNothingStays();
        toldOftenAndLong();
        Check.close("LawEdgeTest");
    }

    private static ForgetWar lawful(String text) {
        ForgetWar x = new ForgetWar();
        Check.law(x, text);
        return x;
    }

    /** "LINE { ; LINE }, at most 12"; "of a LINE too many .. the first word". */
    private static void linesTwelve() {
        Check.same("1", lawful("read").count(4), 1);
        Check.same("12", lawful(Check.times("aim 1", 12)).count(4), 12);
        Check.badLaw(Check.times("read", 12) + ";^read");
        Check.badLaw(Check.times("good 1 if alone", 12) + "; ^aim");
        Check.badLaw(Check.times("read", 12) + ";^what");
        Check.badLaw(Check.times("read", 12) + ";^");
        Check.badLaw(Check.times("read", 12) + " ^read");
    }

    /** "a text, in place of the one before". */
    private static void inPlaceOfTheOneBefore() {
        ForgetWar x = Check.told("soldier 0 1");
        Check.same("three lines", Check.law(x, "aim 30;good 40;read"), 3);
        Check.same("aim and good", x.rule(0, 0) * 1000 + x.rule(0, 1), 30040);
        Check.same("one line", Check.law(x, "good 5"), 1);
        Check.same("the lines before are gone", x.rule(0, 0) + x.rule(0, 2), 0);
        Check.same("good", x.rule(0, 1), 5);
        Check.same("one", x.count(4), 1);
    }

    /** "All numbers are of 1 to 3 digits"; "a number of more digits". */
    private static void numbersOfThreeDigits() {
        String[] lines = {"aim #", "good #", "aim 1 if # < 1", "aim 1 if 1 + # < 1", "aim 1 if foes < #", "aim 1 if 1 > 2 + #"};
        for (String line : lines) {
            for (String number : new String[] {"0", "00", "000", "9", "09", "009", "999"}) {
                Check.same(line + " " + number, lawful(line.replace("#", number)).count(4), 1);
            }
            for (String number : new String[] {"0000", "0001", "1000", "9999", "00000000000", "4294967297"}) {
                Check.badLaw(line.replace("#", "^" + number));
            }
            Check.badLaw(line.replace("#", "^-1"));
        }
    }

    private static ForgetWar field() {
        ForgetWar x = Check.told(FIELD);
        x.hours(3);
        Check.war(x, "knows 2 3");
        return x;
    }

    private static boolean holds(ForgetWar x, String condition) {
        Check.law(x, "aim 7 if " + condition);
        return x.rule(2, 0) == 7;
    }

    /** Numbers are told as they stand, 0 to 999. */
    private static void numbersUpToTheirBounds() {
        ForgetWar x = field();
        Check.yes("998 < 999", holds(x, "998 < 999"));
        Check.no("999 < 999", holds(x, "999 < 999"));
        Check.yes("999 > 998", holds(x, "999 > 998"));
        Check.yes("999 + 1 > 999", holds(x, "999 + 1 > 999"));
        Check.yes("999 + 999 > 999 + 998", holds(x, "999 + 999 > 999 + 998"));
        Check.yes("000 < 001", holds(x, "000 < 001"));
        Check.no("0 < 000", holds(x, "0 < 000"));
    }

    /** "SUM < SUM | SUM > SUM": like ones are neither. */
    private static void whatAComparisonIs() {
        ForgetWar x = field();
        Check.no("1 < 1", holds(x, "1 < 1"));
        Check.no("1 > 1", holds(x, "1 > 1"));
        Check.yes("1 < 2", holds(x, "1 < 2"));
        Check.no("1 > 2", holds(x, "1 > 2"));
        Check.no("2 < 1", holds(x, "2 < 1"));
        Check.yes("2 > 1", holds(x, "2 > 1"));
        for (String bad : new String[] {"1 ^= 1", "1 <^= 1", "1 <^> 1", "1 < 2 ^< 3", "1 ^and 2", "^< 1", "1 <^", "1^"}) {
            Check.badLaw("read if " + bad);
        }
    }

    private static void sumIs(ForgetWar x, String sum, int due) {
        Check.yes(sum + " > less", due == 0 || holds(x, sum + " > " + (due - 1)));
        Check.no(sum + " > it", holds(x, sum + " > " + due));
        Check.yes(sum + " < more", holds(x, sum + " < " + (due + 1)));
        Check.no(sum + " < it", holds(x, sum + " < " + due));
        Check.no("it < " + sum, holds(x, due + " < " + sum));
        Check.yes("less < " + sum, due == 0 || holds(x, (due - 1) + " < " + sum));
    }

    /** "SUM: PART { + PART }; PART: NUMBER | soldier | side | place | hour | known | usable | foes". */
    private static void whatASumIs() {
        ForgetWar x = field();
        String[] parts = {"soldier", "side", "place", "hour", "known", "usable", "foes", "11"};
        int[] due = {2, 1, 5, 3, 3, 2, 5, 11};
        for (int k = 0; k < parts.length; k++) {
            sumIs(x, parts[k], due[k]);
            for (int o = 0; o < parts.length; o++) {
                sumIs(x, parts[k] + " + " + parts[o], due[k] + due[o]);
            }
        }
        sumIs(x, "soldier+side+place+hour+known+usable+foes+11", 32);
        sumIs(x, "1 + 1 + 1 + 1 + 1 + 1 + 1 + 1 + 1 + 1 + 1 + 1 + 1 + 1 + 1 + 1 + 1 + 1 + 1 + 1", 20);
        for (String bad : new String[] {"1 + ^< 1", "1 + ^", "^+ 1 < 1", "1 +^+ 1 < 1", "1 + ^alone", "1 + ^(1) < 2", "1 + ^enemies"}) {
            Check.badLaw("read if " + bad);
        }
    }

    /** "ATOM: not ATOM | ( C ) | alone | SUM < SUM | SUM > SUM". */
    private static void whatAnAtomIs() {
        ForgetWar x = field();
        Check.no("alone", holds(x, "alone"));
        Check.yes("not alone", holds(x, "not alone"));
        Check.yes("( not alone )", holds(x, "( not alone )"));
        Check.no("not ( not alone )", holds(x, "not(not alone)"));
        Check.yes("not 2 < 1", holds(x, "not 2 < 1"));
        for (String bad : new String[] {"^", "^;", "(^)", "(alone^", "(alone^;read", "alone^)", "not^", "not ^;", "not ^and alone", "^and alone",
            "^or alone", "alone ^alone", "alone ^not alone", "alone and^", "alone and ^or alone", "alone or^", "(1^) < 2", "^if alone", "^read", "^#"}) {
            Check.badLaw("read if " + bad);
        }
    }

    /** "the sums of N of all such LINES that hold, 100 at most". */
    private static void hundredAtMost() {
        int[][] due = {{0, 0, 0}, {99, 0, 99}, {99, 1, 100}, {100, 0, 100}, {99, 2, 100}, {101, 0, 100}, {999, 999, 100}, {50, 49, 99}};
        for (int[] one : due) {
            ForgetWar x = Check.told("soldier 0 1");
            Check.law(x, "aim " + one[0] + ";read;aim " + one[1] + " if alone;aim 3 if not alone");
            Check.same("aim " + one[0] + " and " + one[1], x.rule(0, 0), one[2]);
            Check.same("no good line", x.rule(0, 1), 0);
            Check.law(x, "good " + one[0] + ";read;good " + one[1] + " if alone;good 3 if not alone");
            Check.same("good " + one[0] + " and " + one[1], x.rule(0, 1), one[2]);
            Check.same("no aim line", x.rule(0, 0), 0);
        }
    }

    /** "without a text 50, 20"; "without a text: always"; count(4) "NONE without one". */
    private static void withoutAText() {
        ForgetWar x = Check.told("soldier 0 1;soldier 1 1");
        for (int d = 0; d < 2; d++) {
            Check.same("aim", x.rule(d, 0), 50);
            Check.same("good", x.rule(d, 1), 20);
            Check.same("reads", x.rule(d, 2), 1);
        }
        Check.same("lines", x.count(4), ForgetWar.NONE);
        Check.tell(x, "aim");
        Check.noNumber("a wrong one", () -> x.law());
        Check.same("is none", x.count(4), ForgetWar.NONE);
        Check.same("still", x.rule(0, 0), 50);
    }

    /** "A text that is empty, or blanks alone, has no LINE". */
    private static void withoutALine() {
        for (String text : new String[] {"", " ", " ".repeat(400)}) {
            ForgetWar x = Check.told("soldier 0 1");
            Check.same("no line", Check.law(x, text), 0);
            Check.same("no line", x.count(4), 0);
            Check.same("no fault", x.fault(), ForgetWar.NONE);
            Check.same("nothing holds", x.rule(0, 0) + x.rule(0, 1) + x.rule(0, 2), 0);
        }
        Check.badLaw("^;");
        Check.badLaw(" ^; ");
    }

    /** "READS: some read LINE holds". */
    private static void readsOfSomeLine() {
        ForgetWar x = Check.told("soldier 0 1");
        String[] laws = {"read", "read if alone", "read if not alone;read if alone", "aim 5;read", "read;read"};
        for (String law : laws) {
            Check.law(x, law);
            Check.same(law, x.rule(0, 2), 1);
        }
        for (String law : new String[] {"aim 5;good 6", "read if not alone", "read if not alone;aim 9;read if 1 > 1"}) {
            Check.law(x, law);
            Check.same(law, x.rule(0, 2), 0);
        }
    }

    /** "alone: no other one of one's own SIDE is there". */
    private static void aloneOfOnesOwnSide() {
        ForgetWar x = Check.told("soldier 0 0 2;soldier 1 0;soldier 1 0;soldier 0 1 2");
        Check.law(x, "aim 7 if alone");
        Check.same("foes do not count", x.rule(0, 0), 7);
        Check.same("one's own count", x.rule(1, 0) + x.rule(2, 0), 0);
        Check.same("nobody at all", x.rule(3, 0), 7);
        x.hours(1);
        Check.same("they met", x.rule(0, 0) + x.rule(3, 0), 0);
    }

    /** "foes: SOLDIERS of the other SIDE in the PLACE": also who knows nothing. */
    private static void foesInThePlace() {
        ForgetWar x = Check.told("soldier 0 0;soldier 1 0;soldier 1 0;soldier 0 0;soldier 1 1");
        Check.law(x, "aim 7 if foes > 1 and foes < 3");
        int[] due = {7, 7, 7, 7, 0};
        for (int d = 0; d < 5; d++) {
            Check.same("of " + d, x.rule(d, 0), due[d]);
        }
        Check.law(x, "aim 7 if foes < 1");
        Check.same("none there", x.rule(4, 0), 7);
    }

    /** "( and not within one another at most 6 deep"; "the ( or not that is a 7th one deep". */
    private static void sixDeep() {
        ForgetWar x = field();
        Check.no("six", holds(x, "not not not not not not alone"));
        Check.yes("five", holds(x, "not not not not not alone"));
        Check.no("six", holds(x, "((((((alone))))))"));
        Check.yes("six", holds(x, "not(not(not(1 < 2 and 2 < 1)))"));
        Check.yes("each anew", holds(x, "((((((alone)))))) or not not not not not alone and ((((((1 < 2))))))"));
        Check.badLaw("read if not not not not not not ^not alone");
        Check.badLaw("read if not not not not not not ^(alone)");
        Check.badLaw("read if ((((((^(alone)))))))");
        Check.badLaw("read if ((((((^not alone))))))");
        Check.badLaw("read if not(not(not(^not alone)))");
        Check.badLaw("read if (not(not(not ^(alone))))");
        Check.badLaw("read if ((((((alone or ^(alone)))))))");
        Check.badLaw("read if ((((((alone and ^not alone))))))");
        Check.badLaw("read if ((((((alone)))))) and ((((((^(alone)))))))");
        Check.badLaw("read if not not not not not not ^" + "(".repeat(300));
    }

    /** "C: ALL { or ALL }; ALL: ATOM { and ATOM }". */
    private static void andBindsCloser() {
        ForgetWar x = field();
        String[] truth = {"2 < 1", "1 < 2"};
        for (int k = 0; k < 8; k++) {
            boolean a = (k & 1) != 0;
            boolean b = (k & 2) != 0;
            boolean c = (k & 4) != 0;
            String p = truth[k & 1];
            String q = truth[k >> 1 & 1];
            String r = truth[k >> 2];
            Check.same("or and " + k, holds(x, p + " or " + q + " and " + r) ? 1 : 0, a || b && c ? 1 : 0);
            Check.same("and or " + k, holds(x, p + " and " + q + " or " + r) ? 1 : 0, a && b || c ? 1 : 0);
            Check.same("brackets " + k, holds(x, "(" + p + " or " + q + ") and " + r) ? 1 : 0, (a || b) && c ? 1 : 0);
            Check.same("not " + k, holds(x, "not " + p + " and not (" + q + " or " + r + ")") ? 1 : 0, !a && !(b || c) ? 1 : 0);
            Check.same("three or " + k, holds(x, p + " or " + q + " or " + r) ? 1 : 0, k > 0 ? 1 : 0);
            Check.same("three and " + k, holds(x, p + " and " + q + " and " + r) ? 1 : 0, k == 7 ? 1 : 0);
        }
    }

    /** "Words are as long as a to z go on; between all there may be blanks (32), also ahead and behind". */
    private static void wordsAndBlanks() {
        Check.same("close", lawful("aim7if(alone)and not(1<2)or foes>3;good5;read").count(4), 3);
        Check.same("far", lawful("   aim   7   if   (   alone   )   and   not   (   1   <   2   +   3   )   ;   read   ").count(4), 2);
        for (String bad : new String[] {"^Aim 1", "^aims 1", "^memory 1", "aim 1 ^iff alone", "aim 1 if ^notalone", "aim 1 if alone ^andalone",
            "aim 1 if ^aloneand alone", "aim^\t1", "read^\u00a0", "read^\u0000", "read^,read", "read ^1", "aim ^if alone", "aim 1 ^2", "aim ^alone"}) {
            Check.badLaw(bad);
        }
    }

    /** "or the text's length, if more must come". */
    private static void moreMustCome() {
        for (String begun : new String[] {"aim", "good", "aim 1 if", "read if", "read;", "read if not", "read if (", "read if (alone", "read if 1",
            "read if 1 +", "read if 1 <", "read if 1 < 2 +", "read if alone and", "read if alone or", "read if ((alone)"}) {
            Check.badLaw(begun + "^");
            Check.badLaw(begun + "   ^");
        }
    }

    /** "Of a wrong text nothing stays": the one before holds on. */
    private static void ofAWrongTextNothingStays() {
        ForgetWar x = Check.told("memory 1;soldier 0 1;soldier 1 1;knows 0 0;knows 1 0");
        Check.law(x, "aim 42 if alone;good 43;read if side < 1");
        String before = Snapshot.of(x);
        for (String bad : new String[] {"aim 1;good 2;read;x", "aim 99 if", ";", "read;read;read;", "good 1000"}) {
            Check.tell(x, bad);
            Check.noNumber(bad, () -> x.law());
            Check.alike("behind " + bad, Snapshot.of(x), before);
        }
    }

    /** A law of 400 bytes, told again and again: the object is used for 512 calls. */
    private static void toldOftenAndLong() {
        ForgetWar x = Check.told("soldier 0 1");
        String longest = "aim 1 if alone" + " and 1<2".repeat(46) + ";aim 2 if 2<1";
        Check.yes("400 at most", longest.length() <= 400);
        for (int k = 0; k < 18; k++) {
            Check.same("lines", Check.law(x, longest + " ".repeat(400 - longest.length())), 2);
            Check.same("aim", x.rule(0, 0), 1);
        }
        String sums = "aim 3 if 1" + "+9".repeat(190) + ">999;aim 6";
        Check.law(x, sums);
        Check.same("a long sum", x.rule(0, 0), 9);
    }
}
