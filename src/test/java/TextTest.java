/** Promises 4, 5, 6: the grammar of THE WAR and of THE LAW, and the first wrong byte. */
final class TextTest {
    private static final String PAIR = "memory 1;memory 2;soldier 0 3;";

    public static void main(String[] args) {
        warLines();
        warNumbers();
        warBlanks();
        warLimits();
        warTexts();
        nothingStays();
        lawLines();
        lawConditions();
        lawDepth();
        lawWorth();
        Check.close("TextTest");
    }

    private static void warLines() {
        Check.wrongWar("fight", 0);
        Check.wrongWar("memories 1", 0);
        Check.wrongWar("Memory 1", 0);
        Check.wrongWar(";memory 1", 0);
        Check.wrongWar("memoryz 1", 0);
        Check.wrongWar("amemory 1", 0);
        for (String word : new String[] {"memory", "soldier", "knows", "book", "order", "plan", "clash"}) {
            Check.wrongWar(PAIR + word, 30 + word.length());
            for (int k = 0; k < word.length(); k++) {
                Check.wrongWar(PAIR + word.substring(0, k) + "x" + word.substring(k + 1) + " 1 0", 30);
                Check.wrongWar(PAIR + word.substring(0, k) + word.substring(k + 1) + " 1 0", 30);
            }
        }
        Check.wrongWar("memory", 6);
        Check.wrongWar("memory ", 7);
        Check.wrongWar("memory x", 7);
        Check.wrongWar("memory 1 needs", 14);
        Check.wrongWar("memory 1 need 0", 9);
        Check.wrongWar("memory 1 2", 9);
        Check.wrongWar("memory 1;", 9);
        Check.wrongWar("memory 1;;", 9);
        Check.wrongWar("memory 1 needs 0", 15);
        Check.wrongWar("memory 1;memory 2 needs 0 1", 26);
        Check.wrongWar("soldier", 7);
        Check.wrongWar("soldier 0", 9);
        Check.wrongWar("soldier 0 x", 10);
        Check.wrongWar("soldier 0 1 x", 12);
        Check.wrongWar("knows", 5);
        Check.wrongWar(PAIR + "knows 1 0", 36);
        Check.wrongWar(PAIR + "knows 0", 37);
        Check.wrongWar(PAIR + "knows 0 2", 38);
        Check.wrongWar(PAIR + "knows 0 0 1 0", 42);
        Check.wrongWar(PAIR + "book 0", 36);
        Check.wrongWar(PAIR + "book 1 0", 35);
        Check.wrongWar(PAIR + "book 0 2", 37);
        Check.wrongWar(PAIR + "order 1 0", 36);
        Check.wrongWar(PAIR + "order 0 ;", 38);
        Check.wrongWar(PAIR + "plan 2 0", 35);
        Check.wrongWar(PAIR + "plan 1", 36);
        Check.wrongWar(PAIR + "clash 0", 37);
        Check.wrongWar(PAIR + "clash 0 0", 38);
        Check.wrongWar(PAIR + "clash 0 2", 38);
        Check.wrongWar(PAIR + "clash 0 1 1", 40);
        Check.wrongWar("memory 1\u00ff", 8);
        Check.wrongWar("memory\t1", 6);
        Check.wrongWar("memory 1;\u0000", 9);
        Check.same("all lines", Check.war(new ForgetWar(), PAIR + "memory 3 needs 0 1 0;knows 0 2 1;book 0 1 1;order 0 1 1;plan 0 1;clash 0 1;clash 1 0"), 1);
    }

    private static void warNumbers() {
        Check.wrongWar("memory 0", 7);
        Check.wrongWar("memory 100", 7);
        Check.wrongWar("memory 0001", 7);
        Check.wrongWar("memory 99999999999999999999", 7);
        Check.wrongWar("soldier 2 0", 8);
        Check.wrongWar("soldier 0 8", 10);
        ForgetWar x = new ForgetWar();
        Check.same("3 digits", Check.war(x, "memory 099;memory 1;memory 001 needs 001;soldier 000 007"), 1);
        Check.same("99", x.memory(0, 0), 99);
        Check.same("1", x.memory(2, 0), 1);
        Check.same("needs", x.memory(2, 1), 2);
        Check.same("place", x.soldier(0, 1), 7);
    }

    private static void warBlanks() {
        ForgetWar x = new ForgetWar();
        Check.same("close together", Check.war(x, "memory5;memory6needs0;soldier1 2 3"), 1);
        Check.same("needs", x.memory(1, 1), 1);
        Check.same("side", x.soldier(0, 0), 1);
        Check.same("far apart", Check.war(x, "   memory   7   needs   1   0   ;   plan   0   2   "), 2);
        Check.same("needs", x.memory(2, 1), 3);
        Check.same("plan", x.plan(0, false), 4);
        Check.same("blanks alone", Check.war(x, "    "), 3);
        Check.same("empty", Check.war(x, ""), 4);
        Check.same("no fault", x.fault(), -1);
        Check.wrongWar("memoryneeds 1", 0);
    }

    private static void warLimits() {
        ForgetWar x = new ForgetWar();
        Check.wrongWar(x, Check.times("memory 1", 15), 126);
        Check.wrongWar(x, Check.times("memory 1", 14) + "; ", 127);
        Check.wrongWar(x, Check.times("memory 1", 14) + "; 5", 127);
        Check.same("14 lines", Check.war(x, Check.times("memory 1", 14)), 1);
        Check.wrongWar(x, "memory 2;memory 3; memory 4", 19);
        Check.same("16 memories", Check.war(x, "memory 2;memory 3"), 2);
        Check.wrongWar(x, "memory", 0);
        Check.wrongWar(x, Check.times("soldier 0 0", 11), 120);
        Check.same("10 soldiers", Check.war(x, Check.times("soldier 0 0 1 2 3 4 5", 10)), 3);
        Check.wrongWar(x, "clash 0 1;soldier 1 1", 10);
        Check.wrongWar(new ForgetWar(), "soldier 0 0 1 2 3 4 5 6", 22);
        Check.wrongWar(x, Check.times("order 9 15", 11), 110);
        Check.same("10 orders", Check.war(x, Check.times("order 9 15", 10)), 4);
        Check.wrongWar(x, " order", 1);
        Check.wrongWar(x, "knows 1 0 1 2 3 4 5 6 7 8 9 10 11 12", 34);
        Check.same("12 known", Check.war(x, "knows 1 0 1 2 3 4 5 6 7 8 9 10 11"), 5);
        Check.wrongWar(x, "knows 1", 7);
        Check.wrongWar(x, "knows 1 12", 8);
        Check.same("memories", x.count(0), 16);
        Check.same("soldiers", x.count(1), 10);
        Check.same("orders", x.count(2), 10);
    }

    private static void warTexts() {
        ForgetWar x = new ForgetWar();
        for (int k = 1; k <= 12; k++) {
            Check.same("text " + k, Check.war(x, "memory " + k), k);
        }
        Check.wrongWar(x, "memory", 6);
        Check.tell(x, "memory 5");
        Check.throwsA(UnsupportedOperationException.class, "the 13th", () -> x.war());
        Check.same("of a refused text", x.fault(), -1);
        Check.no("used up", x.end(1));
        Check.throwsA(UnsupportedOperationException.class, "an empty 13th", () -> x.war());
        Check.same("texts", x.count(3), 12);
        Check.same("memories", x.count(0), 12);
    }

    private static void nothingStays() {
        ForgetWar x = new ForgetWar();
        Check.war(x, PAIR + "knows 0 0");
        Check.wrongWar(x, "memory 3;soldier 1 1;knows 0 1;book 0 0;order 0 0;plan 0 0;clash 0 1;what", 69);
        Check.same("memories", x.count(0), 2);
        Check.same("soldiers", x.count(1), 1);
        Check.same("orders", x.count(2), 0);
        Check.same("texts", x.count(3), 1);
        Check.same("known", x.soldier(0, 3), 1);
        Check.same("book", x.soldier(0, 5), 0);
        Check.same("plan", x.plan(0, false), 0);
        Check.same("clash", x.memory(0, 7), 0);
        Check.law(x, "aim 7");
        Check.tell(x, "aim 8;aim");
        Check.noNumber("wrong law", () -> x.law());
        Check.same("the law before", x.rule(0, 0), 7);
        Check.same("lines before", x.count(4), 1);
    }

    private static void lawLines() {
        Check.wrongLaw("tax", 0);
        for (String word : new String[] {"soldier", "side", "place", "hour", "known", "usable", "foes", "alone", "not alone"}) {
            String rest = word.endsWith("alone") ? "" : " < 1";
            Check.same(word, Check.law(new ForgetWar(), "read if " + word + rest), 1);
            for (int k = 0; k < word.length(); k++) {
                int begin = k > 3 && word.startsWith("not") ? 12 : 8;
                if (word.charAt(k) != ' ') {
                    Check.wrongLaw("read if " + word.substring(0, k) + "x" + word.substring(k + 1) + rest, begin);
                }
            }
        }
        Check.wrongLaw("aim", 3);
        Check.wrongLaw("aim if alone", 4);
        Check.wrongLaw("aim 1000", 4);
        Check.wrongLaw("aim 1 2", 6);
        Check.wrongLaw("read 5", 5);
        Check.wrongLaw("read;", 5);
        Check.wrongLaw("read; ;", 6);
        Check.wrongLaw("good", 4);
        Check.wrongLaw("good 1 if", 9);
        Check.wrongLaw("good 1 when", 7);
        Check.wrongLaw(Check.times("read", 13), 60);
        Check.wrongLaw(Check.times("read", 12) + ";", 60);
        ForgetWar x = new ForgetWar();
        Check.same("12 lines", Check.law(x, Check.times("aim 999", 12)), 12);
        Check.same("lines", x.count(4), 12);
        Check.same("in its place", Check.law(x, " read ; good 0 "), 2);
        Check.same("empty", Check.law(x, "  "), 0);
        Check.same("lines", x.count(4), 0);
    }

    private static void lawConditions() {
        Check.wrongLaw("read if foes", 12);
        Check.wrongLaw("read if foes and", 13);
        Check.wrongLaw("read if foes = 1", 13);
        Check.wrongLaw("read if foes <", 14);
        Check.wrongLaw("read if foes < 1 < 2", 17);
        Check.wrongLaw("read if foes + < 1", 15);
        Check.wrongLaw("read if foes + 1", 16);
        Check.wrongLaw("read if 1000 < 1", 8);
        Check.wrongLaw("read if 1 < enemies", 12);
        Check.wrongLaw("read if alone + 1 < 2", 14);
        Check.wrongLaw("read if alone and", 17);
        Check.wrongLaw("read if alone or ;", 17);
        Check.wrongLaw("read if alone alone", 14);
        Check.wrongLaw("read if alone)", 13);
        Check.wrongLaw("read if (alone", 14);
        Check.wrongLaw("read if (alone;", 14);
        Check.wrongLaw("read if ()", 9);
        Check.wrongLaw("read if (1) < 2", 10);
        Check.wrongLaw("read if notalone", 8);
        Check.wrongLaw("read if not", 11);
        Check.wrongLaw("read if and", 8);
    }

    private static void lawDepth() {
        Check.wrongLaw("read if not not not not not not not alone", 32);
        Check.wrongLaw("read if (((((((alone)))))))", 14);
        Check.wrongLaw("read if not(not(not(not alone)))", 20);
        Check.wrongLaw("read if not(not(not(alone and not alone)))", 30);
        ForgetWar x = new ForgetWar();
        Check.same("6 deep", Check.law(x, "read if not not not not not not alone and ((((((alone)))))) or not(not(not(alone)))"), 1);
        Check.wrongLaw("read if not(not(not((alone))))", 20);
    }

    private static int aim(String condition) {
        ForgetWar x = new ForgetWar();
        Check.war(x, "memory 1;memory 2 needs 0;memory 3;soldier 0 5 6;soldier 0 6;soldier 1 5;soldier 1 5;soldier 0 5;knows 4 1 2 0;knows 1 1 2;order 0 0");
        Check.law(x, "aim 9 if " + condition);
        int who = 0;
        for (int d = 0; d < 5; d++) {
            who |= x.rule(d, 0) == 9 ? 1 << d : 0;
        }
        return who;
    }

    private static void lawWorth() {
        Check.same("alone", aim("alone"), 2);
        Check.same("not alone", aim("not alone"), 29);
        Check.same("soldier", aim("soldier > 2"), 24);
        Check.same("side", aim("0 < side"), 12);
        Check.same("place", aim("place < 6"), 29);
        Check.same("hour", aim("hour > 0"), 0);
        Check.same("known", aim("known > 1"), 18);
        Check.same("known", aim("known > 2"), 16);
        Check.same("usable", aim("usable > 0"), 18);
        Check.same("usable", aim("usable > 1"), 16);
        Check.same("foes", aim("foes > 0"), 29);
        Check.same("sums", aim("foes + foes + side > 4 + 0"), 12);
        Check.same("equal is neither", aim("1 < 1 or 1 > 1"), 0);
        Check.same("and binds closer", aim("alone or side > 0 and soldier > 2"), 10);
        Check.same("brackets", aim("(alone or side > 0) and soldier > 2"), 8);
        Check.same("not binds closest", aim("not alone and soldier < 1"), 1);
        Check.same("not of a bracket", aim("not (alone or soldier < 1)"), 28);
        Check.same("not twice", aim("not not alone"), 2);
    }
}
