/** Objects in the midst of a war, made anew for each test, always in the same way. */
final class Scenes {
    private Scenes() {
    }

    /**
     * SOLDIERS 0 and 1 of SIDE 0, 2 and 4 of SIDE 1 are at 1, 3 is at 2; 4 knows nothing; 2 alone has a BOOK;
     * two things lie at 1; four ACTS or HOURS are remembered, and THE IMAGE was kept behind the first.
     */
    static ForgetWar midst() {
        ForgetWar x = Check.told("memory 3;memory 4 needs 0;memory 5;memory 6 needs 2;soldier 0 1 2;soldier 0 1;soldier 1 1;"
            + "soldier 1 2 1;soldier 1 1 3;knows 0 0 1 2;knows 1 0;knows 2 2 0 1;knows 3 0;book 2 0 2");
        Check.war(x, "order 0 1;order 2 3;plan 0 0 1;plan 1 2;clash 0 2");
        Check.law(x, "good 50;read if hour < 1 and place < 2");
        x.shoot(0, 2, false);
        x.image();
        x.hours(2);
        x.teach(1, 0, 1);
        x.shoot(1, 2, true);
        x.seed(99);
        Check.tell(x, "memory 1;x");
        Snapshot.answer(() -> x.war());
        Check.tell(x, "abc");
        return x;
    }
}
