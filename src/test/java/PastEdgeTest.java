/** The edges that the document's words on what is UNDONE and on THE IMAGE name: a method a sentence. */
final class PastEdgeTest {
    private interface Act {
        void on(ForgetWar x);
    }

    public static void main(String[] args) {
        allIsAsAheadOfIt();
        oneByOne();
        twelveAreRemembered();
        noneLeft();
        seedToo();
        butForTapeFaultAndImage();
        aTextForgetsThem();
        goingBackForgetsThem();
        whatForgetsNothing();
        imageOfAll();
        imageOfWhatWasUndone();
        sixtyRowsUndone();
        backButForTapeFaultAndImage();
        oneImage();
        noneKept();
        imageOfNobody();
        seedsAsTheyAreTold();
        Check.close("PastEdgeTest");
    }

    /** "all is as ahead of it". */
    private static void allIsAsAheadOfIt() {
        Act[] acts = {x -> x.hours(1), x -> x.hours(60), x -> x.shoot(0, 2, true), x -> x.shoot(2, 0, false), x -> x.teach(1, 0, 2),
            x -> x.gather(4, 1), x -> x.read(2)};
        for (int k = 0; k < acts.length; k++) {
            ForgetWar x = Scenes.midst();
            String before = Snapshot.of(x);
            acts[k].on(x);
            Check.same("one more by " + k, x.count(12), 5);
            Check.no("something happened by " + k, Snapshot.of(x).equals(before));
            Check.yes("undone " + k, x.undo());
            Check.alike("ahead of " + k, Snapshot.of(x), before);
            Check.same("one fewer by " + k, x.count(12), 4);
            acts[k].on(x);
            Check.yes("undone again", x.undo());
            Check.alike("all behind " + k, Snapshot.wearOut(x), Snapshot.wearOut(Scenes.midst()));
        }
    }

    /** "the latest ACT, or HOURS of one call, not undone yet". */
    private static void oneByOne() {
        ForgetWar x = Check.told("memory 1;memory 1;soldier 0 1;soldier 1 1;knows 0 0 1;knows 1 1 0;book 0 0");
        String[] before = new String[5];
        Act[] acts = {y -> y.shoot(0, 1, false), y -> y.hours(7), y -> y.read(0), y -> y.hours(1), y -> y.read(0)};
        for (int k = 0; k < 5; k++) {
            before[k] = Snapshot.of(x);
            acts[k].on(x);
        }
        for (int k = 4; k >= 2; k--) {
            Check.yes("undo " + k, x.undo());
            Check.alike("ahead of " + k, Snapshot.of(x), before[k]);
        }
        x.read(0);
        Check.same("a new one", x.count(12), 3);
        for (int k = 2; k >= 0; k--) {
            Check.yes("undo " + k, x.undo());
            Check.alike("ahead of " + k, Snapshot.of(x), before[k]);
        }
        Check.no("all undone", x.undo());
    }

    /** "(12 are remembered)". */
    private static void twelveAreRemembered() {
        for (int n = 11; n <= 26; n++) {
            ForgetWar x = Check.told("memory 1;soldier 0 1;book 0 0");
            for (int k = 1; k <= n; k++) {
                x.hours(k);
                Check.same("remembered of " + k, x.count(12), Math.min(k, 12));
            }
            int undone = 0;
            while (x.undo()) {
                undone++;
                int left = n - undone;
                Check.same("hour behind " + undone, x.count(5), left * (left + 1) / 2);
            }
            Check.same("12 of " + n, undone, Math.min(n, 12));
            x.hours(3);
            Check.same("one anew", x.count(12), 1);
        }
    }

    /** "UNDONE: whether there was one". */
    private static void noneLeft() {
        ForgetWar x = new ForgetWar();
        Check.no("of a new object", x.undo());
        x.hours(1);
        Check.yes("one", x.undo());
        Check.no("no second one", x.undo());
        Check.same("as new", x.count(5) + x.count(12), 0);
    }

    /** The draws are as ahead of it, too, whatever SEED was told since. */
    private static void seedToo() {
        ForgetWar x = Check.told("memory 1;soldier 0 1;soldier 1 1;knows 0 0;knows 1 0;book 0 0");
        x.seed(5);
        x.hours(1);
        Check.yes("undo", x.undo());
        Check.same("the seed", x.seed(6), 5);
        x.read(0);
        x.seed(7);
        Check.yes("undo", x.undo());
        Check.same("the seed", x.seed(8), 6);
        Check.no("a seed is no act", x.undo());
    }

    /** "(but for the TAPE, fault(), THE IMAGE)". */
    private static void butForTapeFaultAndImage() {
        ForgetWar x = Check.told("memory 1;soldier 0 1;book 0 0");
        x.read(0);
        Check.badWar(x, "memory ^0");
        Check.tell(x, "abcde");
        x.image();
        Check.yes("undo", x.undo());
        Check.same("tape", Snapshot.tape(x), 5);
        Check.same("fault", x.fault(), 7);
        Check.same("ahead of it", x.soldier(0, 3), 0);
        Check.yes("the image", x.back());
        Check.same("kept behind it", x.soldier(0, 3), 1);
    }

    /** "A text .. none are remembered": THE WAR's and THE LAW's, also empty ones. */
    private static void aTextForgetsThem() {
        Act[] texts = {x -> Check.war(x, "memory 1"), x -> Check.war(x, ""), x -> Check.law(x, "aim 1"), x -> Check.law(x, "")};
        for (Act text : texts) {
            ForgetWar x = Scenes.midst();
            text.on(x);
            String before = Snapshot.of(x);
            Check.same("none are remembered", x.count(12), 0);
            Check.no("none", x.undo());
            Check.alike("nothing happened", Snapshot.of(x), before);
            x.hours(1);
            Check.yes("what comes then", x.undo());
            Check.alike("ahead of it", Snapshot.of(x), before);
            Check.yes("the image stays", x.back());
        }
    }

    /** "going back: none are remembered". */
    private static void goingBackForgetsThem() {
        ForgetWar x = Scenes.midst();
        Check.yes("back", x.back());
        Check.same("none are remembered", x.count(12), 0);
        String before = Snapshot.of(x);
        Check.no("none", x.undo());
        Check.alike("nothing happened", Snapshot.of(x), before);
        x.hours(2);
        Check.same("one", x.count(12), 1);
        Check.yes("what comes then", x.undo());
        Check.alike("ahead of it", Snapshot.of(x), before);
    }

    /** Wrong texts, refused calls, asking, keeping THE IMAGE. */
    private static void whatForgetsNothing() {
        ForgetWar x = Scenes.midst();
        Check.badWar(x, "memory 1;^");
        Check.tell(x, "aim");
        Snapshot.answer(() -> x.law());
        Snapshot.answer(() -> x.hours(61));
        Snapshot.answer(() -> x.read(0));
        x.image();
        x.trial(60, 0);
        x.span(0, 24, true);
        Check.same("all four", x.count(12), 4);
        for (int k = 0; k < 4; k++) {
            Check.yes("undo " + k, x.undo());
        }
        Check.no("no fifth", x.undo());
    }

    /** "THE IMAGE (one) of all may be kept, and gone back to". */
    private static void imageOfAll() {
        ForgetWar x = Scenes.midst();
        String before = Snapshot.of(x);
        x.image();
        Check.alike("keeping it changes nothing", Snapshot.of(x), before);
        Check.same("nor what is remembered", x.count(12), 4);
        Check.war(x, "memory 9 needs 3;soldier 0 5;knows 5 4;knows 0 3;book 0 3;order 0 0;plan 0 3;plan 1 4;clash 1 3");
        Check.law(x, "aim 100;good 100;read");
        x.hours(9);
        x.read(0);
        x.seed(3);
        Check.no("much has changed", Snapshot.of(x).equals(before));
        for (int k = 0; k < 2; k++) {
            Check.yes("back", x.back());
            Check.alike("all is as it was", Snapshot.of(x), before);
            Check.law(x, "");
            Check.war(x, "soldier 1 1;soldier 0 7");
            x.hours(3);
        }
    }

    /** What was undone, and other things done in its stead, are in THE IMAGE as they were. */
    private static void imageOfWhatWasUndone() {
        ForgetWar x = Check.told("memory 1;memory 1;memory 1;soldier 0 1 2;soldier 1 1 2;knows 0 0 2;knows 1 0 1");
        Check.law(x, "");
        x.shoot(0, 1, false);
        x.image();
        String before = Snapshot.of(x);
        Check.yes("undo", x.undo());
        x.hours(1);
        Check.same("another one", x.shoot(1, 0, true), 0);
        Check.no("unlike", Snapshot.of(x).equals(before));
        Check.yes("back", x.back());
        Check.alike("the first one", Snapshot.of(x), before);
    }

    /** A 61st SHOT forgets a row of THE LOG and, with 40 things, a thing: undone, both are there again. */
    private static void sixtyRowsUndone() {
        ForgetWar x = Check.told("memory 1;memory 1;soldier 0 1 2;soldier 1 1 2;soldier 0 1 2;soldier 1 1 2;knows 0 1;knows 1 0;knows 3 1;book 1 0");
        Check.law(x, "");
        x.shoot(1, 0, true);
        x.hours(1);
        x.shoot(2, 3, true);
        for (int k = 2; k < 60; k++) {
            x.shoot(0, 1, false);
            x.read(1);
        }
        x.hours(1);
        String before = Snapshot.of(x);
        x.shoot(2, 1, true);
        Check.same("the second is the oldest", x.log(59, 1), 2);
        Check.yes("undo", x.undo());
        Check.same("the first is the oldest", x.log(59, 1), 1);
        Check.alike("all 60 rows", Snapshot.of(x), before);
    }

    /** "(but for the TAPE, fault() and THE IMAGE itself)". */
    private static void backButForTapeFaultAndImage() {
        ForgetWar x = Scenes.midst();
        Check.badWar(x, "soldier 1 ^8");
        Check.tell(x, "seven..");
        Check.yes("back", x.back());
        Check.same("tape", Snapshot.tape(x), 7);
        Check.same("fault", x.fault(), 10);
        String at = Snapshot.of(x);
        x.hours(5);
        Check.yes("back again", x.back());
        Check.alike("the same", Snapshot.of(x), at);
    }

    /** "THE IMAGE (one)": the latest. */
    private static void oneImage() {
        ForgetWar x = new ForgetWar();
        x.image();
        x.hours(1);
        x.image();
        x.hours(1);
        Check.yes("back", x.back());
        Check.same("the latest", x.count(5), 1);
        Check.yes("back", x.back());
        Check.same("not the one before", x.count(5), 1);
    }

    /** "false, and nothing happens, if none was kept". */
    private static void noneKept() {
        ForgetWar x = Check.told("memory 1;soldier 0 1;book 0 0");
        x.read(0);
        String before = Snapshot.of(x);
        Check.no("none", x.back());
        Check.alike("nothing happened", Snapshot.of(x), before);
        Check.same("still remembered", x.count(12), 1);
    }

    /** THE IMAGE of a new object holds nobody, and no LAW. */
    private static void imageOfNobody() {
        ForgetWar x = new ForgetWar();
        String before = Snapshot.of(x);
        x.image();
        for (int k = 1; k <= 12; k++) {
            Check.same("text " + k, Check.war(x, "memory 1"), k);
        }
        Check.law(x, "read");
        Check.yes("back", x.back());
        Check.alike("nobody", Snapshot.of(x), before);
        Check.same("12 texts again", Check.war(x, "memory 1;soldier 0 1"), 1);
        Check.same("no needs of before", x.memory(0, 1) + x.memory(0, 2) + x.memory(0, 7), 0);
        Check.same("no law", x.rule(0, 0), 50);
    }

    /** "SEED: what it was". */
    private static void seedsAsTheyAreTold() {
        ForgetWar x = new ForgetWar();
        int before = 1;
        for (int seed : new int[] {0, -1, Integer.MIN_VALUE, Integer.MAX_VALUE, 1, 12345}) {
            Check.same("what it was", x.seed(seed), before);
            before = seed;
        }
    }
}
