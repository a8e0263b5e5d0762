/** Promises 21 to 27: shots, what a plan outlasts, reserves, companies, drills, duels. */
final class PlanTest {
    public static void main(String[] args) {
        shots();
        outlasts();
        reserves();
        companies();
        drills();
        duels();
        bestHits();
        Check.close("PlanTest");
    }

    private static void shots() {
        ForgetWar x = Check.told("memory 1;memory 1 needs 0;memory 1 needs 1;memory 1;memory 1 needs 3;soldier 0 1;knows 0 2 1 3 0 ");
        int[] due = {1, 1, 1, 2, 0};
        for (int m = 0; m < 5; m++) {
            Check.same("the latest till " + m, x.shots(0, m, false), due[m]);
            Check.same("good ones till " + m, x.shots(0, m, true), m < 4 ? 1 : 0);
        }
        ForgetWar y = Check.told("memory 1;memory 1 needs 0;memory 1;soldier 0 1;knows 0 0 1 2");
        Check.same("behind another one", y.shots(0, 1, false), 2);
        Check.same("the first", y.shots(0, 0, false), 3);
        Check.outOfBounds("no soldier", () -> x.shots(1, 0, true));
        Check.outOfBounds("no memory", () -> x.shots(0, 5, false));
        Check.outOfBounds("below", () -> x.shots(-1, -1, false));
    }

    private static void outlasts() {
        ForgetWar x = Check.told("memory 1;memory 1;memory 1;soldier 0 1;soldier 0 2;soldier 1 1;knows 0 0 1 2;knows 1 2 1;knows 2 0;plan 0 1 2");
        Check.same("good: 2 each", x.outlasts(0, true, false), 2);
        Check.same("of several the least", x.outlasts(0, true, true), 1);
        Check.same("the latest: 2 + 1 of 1, 1 + 2 of 2", x.outlasts(0, false, false), 3);
        Check.same("of several the least", x.outlasts(0, false, true), 1);
        Check.same("no plan", x.outlasts(1, true, false), -1);
        Check.same("no plan", x.outlasts(1, true, true), -1);
        Check.war(x, "plan 0 0;plan 1 1 0");
        Check.same("the fewest good", x.outlasts(0, true, false), 1);
        Check.same("of 0", x.outlasts(0, true, true), 0);
        Check.same("3 of 0", x.outlasts(0, false, false), 3);
        Check.same("the plan does not hold", x.outlasts(1, false, false), 0);
        Check.same("for want of 1", x.outlasts(1, false, true), 1);
        Check.outOfBounds("side 2", () -> x.outlasts(2, true, true));
        Check.outOfBounds("side -1", () -> x.outlasts(-1, false, false));
    }

    private static void reserves() {
        ForgetWar x = Check.told("memory 1;memory 1 needs 0;memory 1;soldier 0 1;soldier 0 2;soldier 0 3;soldier 1 1;knows 0 0 1;knows 1 0;knows 3 0 1 2;plan 0 0 1");
        Check.same("1: all there", x.reserves(0, 1), 0);
        Check.same("2: one lacks 1", x.reserves(0, 2), 1);
        Check.same("3: the third cannot learn 1 now", x.reserves(0, 3), -1);
        Check.same("4: there are but 3", x.reserves(0, 4), -1);
        Check.same("no plan", x.reserves(1, 10), 0);
        Check.war(x, "plan 0 2;knows 2 0");
        Check.same("1: 2 lacks one", x.reserves(0, 1), 1);
        Check.same("3: two of 1, three of 2", x.reserves(0, 3), 5);
        Check.noNumber("0", () -> x.reserves(0, 0));
        Check.noNumber("11", () -> x.reserves(0, 11));
        Check.outOfBounds("side 2", () -> x.reserves(2, 0));
        Check.outOfBounds("side -1", () -> x.reserves(-1, 1));
    }

    private static void companies() {
        ForgetWar x = Check.told("memory 1;memory 1 needs 0;memory 1;soldier 0 1;soldier 1 1;knows 0 1 0 2;knows 1 2;order 0 1;order 0 0 2;order 1 2;order 1 0");
        int[] due = {0, 4, 5, 7, 7};
        for (int n = 0; n < 5; n++) {
            Check.same("company of " + n, x.company(n), due[n]);
        }
        Check.same("company of 12", x.company(12), 7);
        Check.noNumber("13", () -> x.company(13));
        Check.noNumber("-1", () -> x.company(-1));
    }

    private static void drills() {
        ForgetWar x = Check.told("memory 1;memory 1 needs 0;memory 1 needs 1;memory 1;soldier 0 1");
        Check.same("no order", x.drill(false), -1);
        Check.same("no order", x.drill(true), -1);
        Check.war(x, "order 0 2;order 0 3 1;order 0 0 1 2");
        Check.same("of several the least", x.drill(false), 0);
        Check.same("in all", x.drill(true), 3);
        Check.war(x, "order 0 1;order 0 0 3");
        Check.same("the fewest", x.drill(false), 3);
        Check.same("in all", x.drill(true), 2);
    }

    private static void duels() {
        ForgetWar x = Check.told("memory 1;memory 1;memory 1 needs 0;memory 1 needs 1;memory 1;soldier 0 1;soldier 0 2;soldier 1 3;soldier 1 4;soldier 0 5");
        Check.war(x, "knows 0 2 0;knows 1 2 3 0 1;knows 2 2 3;knows 4 4");
        Check.same("as many: the first", x.duel(0, 4), 0);
        Check.same("as many: the first", x.duel(4, 0), 4);
        Check.same("fewer: the other", x.duel(0, 1), 1);
        Check.same("more: the first", x.duel(1, 0), 1);
        Check.same("nothing usable: lost", x.duel(2, 3), 3);
        Check.same("both nothing: lost", x.duel(3, 2), 2);
        Check.same("nothing to be hit: wins", x.duel(0, 3), 0);
        Check.same("the other has nothing", x.duel(0, 2), 0);
        Check.noNumber("both are one", () -> x.duel(2, 2));
        Check.outOfBounds("no soldier", () -> x.duel(5, 5));
        Check.outOfBounds("no other", () -> x.duel(0, -1));
        ForgetWar y = Check.told("memory 1;memory 1;memory 1;memory 1;memory 1;memory 1;memory 1;memory 1;soldier 0 1;soldier 1 1;knows 0 0 1 2 3 4 5 6;knows 1 0");
        Check.same("7", y.duel(0, 1), 0);
        Check.same("7", y.best(1, 0), -1);
        Check.war(y, "knows 0 7");
        Check.same("8", y.duel(0, 1), -3);
        Check.same("8 of the other", y.duel(1, 0), -3);
        Check.same("8", y.best(0, 1), -3);
        Check.same("8 of the other", y.best(1, 0), -3);
    }

    private static void bestHits() {
        ForgetWar x = Check.told("memory 1;memory 1 needs 0;memory 1;memory 1;soldier 0 1;soldier 1 1;soldier 1 2;soldier 0 3;knows 0 2 3;knows 1 1 2 0;knows 2 1");
        Check.same("a root must go", x.best(0, 1), 0);
        Check.same("of the other's", x.best(1, 0), 2);
        Check.same("any will do: the least", x.best(0, 2), 1);
        Check.same("who has nothing usable loses", x.best(2, 0), -1);
        Check.same("nothing to be hit", x.best(0, 3), -1);
        Check.same("knows nothing", x.best(3, 0), -1);
        Check.noNumber("both are one", () -> x.best(1, 1));
        Check.outOfBounds("no soldier", () -> x.best(4, 0));
        Check.outOfBounds("no other", () -> x.best(0, 4));
        ForgetWar y = Check.told("memory 1 ;memory 1;memory 1 needs 1;soldier 0 1;soldier 1 1;knows 0 0;knows 1 2 1;knows 0 1");
        Check.same("more roots: also what is none", y.best(0, 1), 1);
        y.shoot(1, 0, false);
        Check.same("as many: the root", y.best(0, 1), 1);
    }
}
