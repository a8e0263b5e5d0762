/** Promises 7 to 13 and 20: what is told of memories, soldiers, orders, rules and plans. */
final class LookTest {
    private static final String WAR = "memory 10;memory 20 needs 0;memory 30 needs 1;memory 40;memory 50 needs 2 3;"
        + "soldier 0 1 2 3;soldier 1 1;soldier 0 4;soldier 0 1;knows 0 4 2 1 0;knows 1 3 0;knows 2 1;knows 3 2 1 0 3 4";

    private static ForgetWar told() {
        ForgetWar x = new ForgetWar();
        Check.war(x, WAR);
        Check.war(x, "book 0 4 0;book 0 1;order 0 2;order 0 4;order 1 0 3;order 3 4;plan 0 4;plan 0 1;plan 1 1 0;clash 1 2;clash 2 4");
        return x;
    }

    public static void main(String[] args) {
        memories();
        soldiers();
        known();
        places();
        falls();
        orders();
        rules();
        plans();
        Check.close("LookTest");
    }

    private static void memories() {
        ForgetWar x = told();
        int[][] due = {
            {10, 0, 1 | 2 | 4 | 16 ^ 1, 0, 11, 11, 0, 0},
            {20, 1, 4 | 16, 1, 13, 9, 0, 4},
            {30, 2, 16, 3, 9, 9, 0, 18},
            {40, 0, 16, 0, 10, 10, 0, 0},
            {50, 12, 0, 15, 9, 8, 0, 4}};
        due[0][2] = 2 | 4 | 16;
        for (int m = 0; m < 5; m++) {
            for (int what = 0; what < 8; what++) {
                Check.same("memory " + m + " " + what, x.memory(m, what), due[m][what]);
            }
        }
        x.shoot(0, 1, false);
        Check.same("in the field", x.memory(0, 6), 1);
        x.shoot(1, 3, false);
        x.shoot(1, 3, false);
        x.shoot(0, 1, false);
        Check.same("twice in the field", x.memory(3, 6), 2);
        Check.same("who knows it", x.memory(3, 4), 0);
        Check.same("to whom usable", x.memory(3, 5), 0);
        Check.noElement("what 8", () -> x.memory(0, 8));
        Check.noElement("what -1", () -> x.memory(4, -1));
        Check.outOfBounds("memory 5", () -> x.memory(5, 0));
        Check.outOfBounds("memory -1", () -> x.memory(-1, 8));
    }

    private static void soldiers() {
        ForgetWar x = told();
        int[][] due = {
            {0, 1, 4, 23, 7, 19, 3, 60, 1},
            {1, 1, 2, 9, 9, 0, 1, 50, 4},
            {0, 4, 1, 2, 0, 0, 1, 0, 0},
            {0, 1, 5, 31, 31, 0, 1, 150, 8}};
        for (int d = 0; d < 4; d++) {
            for (int what = 0; what < 9; what++) {
                Check.same("soldier " + d + " " + what, x.soldier(d, what), due[d][what]);
            }
        }
        Check.noElement("what 9", () -> x.soldier(0, 9));
        Check.noElement("what -1", () -> x.soldier(3, -1));
        Check.outOfBounds("soldier 4", () -> x.soldier(4, 0));
        Check.outOfBounds("soldier -1", () -> x.soldier(-1, 9));
    }

    private static void known() {
        ForgetWar x = told();
        int[] due = {-1, 4, 2, 1, 0, -1};
        for (int k = -1; k < 5; k++) {
            Check.same("known 0 " + k, x.known(0, k), due[k + 1]);
        }
        Check.same("the least", x.known(0, Integer.MIN_VALUE), -1);
        Check.same("the most", x.known(0, Integer.MAX_VALUE), -1);
        Check.same("not another one's", x.known(2, 1), -1);
        Check.outOfBounds("soldier 4", () -> x.known(4, 0));
        Check.outOfBounds("soldier -1", () -> x.known(-1, 0));
    }

    private static void places() {
        ForgetWar x = told();
        for (int h = 0; h <= 1000; h++) {
            Check.same("place 0 " + h, x.place(0, h), 1 + h % 3);
        }
        Check.same("stays", x.place(2, 1000), 4);
        x.hours(2);
        Check.same("from now", x.place(0, 0), 3);
        Check.same("round", x.place(0, 1), 1);
        Check.same("soldier", x.soldier(0, 1), 3);
        Check.war(x, "soldier 1 6 7");
        Check.same("late: the first", x.place(4, 0), 6);
        x.hours(1);
        Check.same("late: the next", x.soldier(4, 1), 7);
        Check.noNumber("below", () -> x.place(0, -1));
        Check.noNumber("beyond", () -> x.place(0, 1001));
        Check.outOfBounds("soldier 5", () -> x.place(5, -1));
    }

    private static void falls() {
        ForgetWar x = told();
        int[][] due = {{3, 2, 1, 0, 0}, {1, 0, 0, 1, 0}, {0, 0, 0, 0, 0}, {4, 3, 2, 2, 1}};
        for (int d = 0; d < 4; d++) {
            for (int m = 0; m < 5; m++) {
                Check.same("falls " + d + " " + m, x.falls(d, m), due[d][m]);
            }
        }
        Check.outOfBounds("soldier", () -> x.falls(4, 0));
        Check.outOfBounds("memory", () -> x.falls(0, 5));
        Check.outOfBounds("below", () -> x.falls(0, -1));
    }

    private static void orders() {
        ForgetWar x = told();
        int[][] due = {{0, 4, 1, 3}, {0, 16, 0, 5}, {1, 9, 1, 2}, {3, 16, 1, 5}};
        for (int o = 0; o < 4; o++) {
            for (int what = 0; what < 4; what++) {
                Check.same("order " + o + " " + what, x.order(o, what), due[o][what]);
            }
        }
        Check.noElement("what 4", () -> x.order(0, 4));
        Check.noElement("what -1", () -> x.order(0, -1));
        Check.outOfBounds("order 4", () -> x.order(4, 9));
        Check.outOfBounds("order -1", () -> x.order(-1, 0));
    }

    private static void rules() {
        ForgetWar x = told();
        Check.same("aim", x.rule(2, 0), 50);
        Check.same("good", x.rule(2, 1), 20);
        Check.same("reads", x.rule(2, 2), 1);
        Check.same("at whom", x.rule(0, 3), 1);
        Check.same("who knows most", x.rule(1, 3), 3);
        Check.same("nobody there", x.rule(2, 3), -1);
        x.shoot(1, 3, false);
        Check.same("of several the least", x.rule(1, 3), 0);
        Check.law(x, "aim 60;aim 50 if side > 0;good 30;good 30 if alone;good 30 if not alone;read if known > 4");
        Check.same("a sum", x.rule(0, 0), 60);
        Check.same("100 at most", x.rule(1, 0), 100);
        Check.same("good", x.rule(1, 1), 60);
        Check.same("does not read", x.rule(0, 2), 0);
        Check.law(x, "");
        Check.same("no line aims", x.rule(0, 0), 0);
        Check.same("no line is good", x.rule(0, 1), 0);
        Check.same("no line reads", x.rule(0, 2), 0);
        Check.law(x, "read if known > 4;read if soldier < 1");
        Check.same("some line reads", x.rule(0, 2), 1);
        x.shoot(0, 1, true);
        x.shoot(0, 1, true);
        Check.same("knows nothing: is not shot at", x.rule(0, 3), -1);
        Check.same("has nothing usable: does not shoot", x.rule(1, 3), -1);
        Check.noElement("what 4", () -> x.rule(0, 4));
        Check.noElement("what -1", () -> x.rule(0, -1));
        Check.outOfBounds("soldier 4", () -> x.rule(4, 4));
    }

    private static void plans() {
        ForgetWar x = told();
        Check.same("plan 0", x.plan(0, false), 18);
        Check.same("plan 0 holds", x.plan(0, true), 0);
        Check.same("plan 1", x.plan(1, false), 3);
        Check.same("lost of plan 1", x.plan(1, true), 2);
        x.shoot(1, 3, false);
        Check.same("lost of plan 0", x.plan(0, true), 16);
        Check.outOfBounds("side 2", () -> x.plan(2, false));
        Check.outOfBounds("side -1", () -> x.plan(-1, true));
    }
}
