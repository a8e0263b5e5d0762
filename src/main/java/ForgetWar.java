import java.util.NoSuchElementException;

/** A war in which whoever is hit loses a memory; ../shared/DOC.md tells what each call promises. */
public final class ForgetWar {
    public static final int NONE = -1;

    private static final int NO_MUTE = -2;
    private static final int TOO_MANY = -3;

    private static final int MEMORIES = 16;
    private static final int SOLDIERS = 10;
    private static final int ORDERS = 10;
    private static final int PLACES = 8;
    private static final int ROUTE = 6;
    private static final int KNOWN = 12;
    private static final int THINGS = 40;
    private static final int ROWS = 60;
    private static final int ACTS = 12;
    private static final int WAR_TEXTS = 12;
    private static final int WAR_LINES = 14;
    private static final int LAW_LINES = 12;
    private static final int DEPTH = 6;
    private static final int TAPE_BYTES = 400;
    private static final int FED_BYTES = 20;
    private static final int LONGEST = 60;
    private static final int LONGEST_SPAN = 24;
    private static final int LAST_SEED = 6;
    private static final int MUTE_HOURS = 12;
    private static final int MEET_HOURS = 144;
    private static final int FORESEEN = 1000;
    private static final int DUEL_KNOWN = 7;
    private static final int TOLD = 8;

    private static final int END = 0;
    private static final int WORD = 1;
    private static final int NUMBER = 2;
    private static final int SIGN = 3;

    private static final int AIM = 0;
    private static final int GOOD = 1;
    private static final int READ = 2;

    // In the code of THE LAW 0 to 999 are numbers; these stand above them.
    private static final int PARTS = 1000;
    private static final int PART_SOLDIER = 0;
    private static final int PART_SIDE = 1;
    private static final int PART_PLACE = 2;
    private static final int PART_HOUR = 3;
    private static final int PART_KNOWN = 4;
    private static final int PART_USABLE = 5;
    private static final int PART_FOES = 6;
    private static final int PART_ALONE = 7;
    private static final int PART_COUNT = 8;
    private static final int PLUS = 1008;
    private static final int LESS = 1009;
    private static final int MORE = 1010;
    private static final int NOT = 1011;
    private static final int AND = 1012;
    private static final int OR = 1013;

    private final Tape tape;
    private final World now;
    private final World probe;
    private final World draft;
    private final World kept;
    private final WarText warText;
    private final LawText lawText;
    private final Past past;
    private final Study study;
    private final Talk talk;
    private final Guess guess;
    private boolean imaged;
    private int wrong;

    public ForgetWar() {
        tape = new Tape();
        now = new World(new Lore(), new Law());
        probe = new World(now.lore, now.law);
        draft = new World(new Lore(), new Law());
        kept = new World(new Lore(), new Law());
        warText = new WarText(tape, draft);
        lawText = new LawText(tape, draft.law);
        past = new Past();
        study = new Study(now);
        talk = new Talk(now);
        guess = new Guess(now);
        imaged = false;
        wrong = NONE;
    }

    public int feed(int a, int b, int c, int d, int e) {
        if (tape.size + FED_BYTES > TAPE_BYTES) {
            return NONE;
        }
        tape.addNumber(a);
        tape.addNumber(b);
        tape.addNumber(c);
        tape.addNumber(d);
        tape.addNumber(e);
        return tape.size;
    }

    public boolean end(int n) {
        if (n < 0 || n > tape.size) {
            return false;
        }
        tape.size = n;
        return true;
    }

    public int war() throws IllegalArgumentException, UnsupportedOperationException {
        draft.copyFrom(now);
        boolean right = warText.readAll();
        closeText(right);
        if (!right) {
            throw new IllegalArgumentException("a wrong text of the war");
        }
        if (now.lore.texts >= WAR_TEXTS) {
            throw new UnsupportedOperationException("there are 12 texts of the war");
        }
        draft.lore.texts++;
        now.copyFrom(draft);
        past.size = 0;
        return now.lore.texts;
    }

    public int law() throws IllegalArgumentException {
        boolean right = lawText.readAll();
        closeText(right);
        if (!right) {
            throw new IllegalArgumentException("a wrong text of the law");
        }
        now.law.copyFrom(draft.law);
        past.size = 0;
        return now.law.lines;
    }

    private void closeText(boolean right) {
        wrong = right ? NONE : tape.begin;
        tape.size = 0;
    }

    public int fault() {
        return wrong;
    }

    public int memory(int memory, int what) throws IndexOutOfBoundsException, NoSuchElementException {
        needMemory(memory);
        switch (what) {
            case 0:
                return pick(now.lore.worth, memory);
            case 1:
                return pick(now.lore.needs, memory);
            case 2:
                return pick(now.lore.rests, memory);
            case 3:
                return pick(now.lore.bears, memory);
            case 4:
                return now.whoKnow(memory);
            case 5:
                return now.whoUse(memory);
            case 6:
                return now.scene.timesInField(memory);
            case 7:
                return pick(now.lore.clash, memory);
            default:
                throw new NoSuchElementException("a memory has no such thing");
        }
    }

    public int soldier(int soldier, int what) throws IndexOutOfBoundsException, NoSuchElementException {
        needSoldier(soldier);
        switch (what) {
            case 0:
                return pick(now.lore.side, soldier);
            case 1:
                return pick(now.scene.place, soldier);
            case 2:
                return pick(now.scene.many, soldier);
            case 3:
                return pick(now.scene.known, soldier);
            case 4:
                return pick(now.scene.usable, soldier);
            case 5:
                return pick(now.lore.book, soldier);
            case 6:
                return pick(now.lore.routeSize, soldier);
            case 7:
                return now.lore.worthOf(pick(now.scene.usable, soldier));
            case 8:
                return now.lore.ordersOf(soldier) & now.obeyedOrders();
            default:
                throw new NoSuchElementException("a soldier has no such thing");
        }
    }

    public int known(int soldier, int k) throws IndexOutOfBoundsException {
        needSoldier(soldier);
        return now.scene.knownAt(soldier, k);
    }

    public int place(int soldier, int hours) throws IndexOutOfBoundsException, IllegalArgumentException {
        needSoldier(soldier);
        needNumber(hours, 0, FORESEEN);
        return now.placeIn(soldier, hours);
    }

    public int falls(int soldier, int memory) throws IndexOutOfBoundsException {
        needSoldier(soldier);
        needMemory(memory);
        return now.fallsOf(soldier, memory);
    }

    public int order(int order, int what) throws IndexOutOfBoundsException, NoSuchElementException {
        if (order < 0 || order >= now.lore.orders) {
            throw new IndexOutOfBoundsException("no such order");
        }
        switch (what) {
            case 0:
                return pick(now.lore.orderOf, order);
            case 1:
                return pick(now.lore.orderSet, order);
            case 2:
                return now.obeyedOrders() >> order & 1;
            case 3:
                return now.lore.neededInAll(order);
            default:
                throw new NoSuchElementException("an order has no such thing");
        }
    }

    public int rule(int soldier, int what) throws IndexOutOfBoundsException, NoSuchElementException {
        needSoldier(soldier);
        switch (what) {
            case 0:
                return now.ruled(soldier, AIM);
            case 1:
                return now.ruled(soldier, GOOD);
            case 2:
                return now.ruled(soldier, READ) > 0 ? 1 : 0;
            case 3:
                return now.targetOf(soldier);
            default:
                throw new NoSuchElementException("there is no such rule");
        }
    }

    public int hours(int n) throws IllegalArgumentException {
        needNumber(n, 1, LONGEST);
        past.keep(now.scene);
        int before = now.scene.lost;
        for (int k = 0; k < n; k++) {
            now.passHour();
        }
        return now.scene.lost - before;
    }

    public int shoot(int soldier, int other, boolean good) throws IndexOutOfBoundsException, IllegalArgumentException, IllegalStateException {
        needTwo(soldier, other);
        if (now.ofOneSide(soldier, other) || !now.together(soldier, other) || pick(now.scene.many, other) < 1) {
            throw new IllegalStateException("this shot cannot be");
        }
        past.keep(now.scene);
        return now.hit(soldier, other, good);
    }

    public int teach(int soldier, int by, int memory) throws IndexOutOfBoundsException, IllegalArgumentException, IllegalStateException {
        needSoldier(soldier);
        needSoldier(by);
        needMemory(memory);
        needUnlike(soldier, by);
        boolean near = now.ofOneSide(soldier, by) && now.together(soldier, by);
        if (!near || !now.canUse(by, memory) || !now.canLearn(soldier, memory)) {
            throw new IllegalStateException("this cannot be taught");
        }
        past.keep(now.scene);
        now.learn(soldier, memory);
        return pick(now.scene.many, soldier);
    }

    public int gather(int soldier, int k) throws IndexOutOfBoundsException, IllegalStateException {
        needSoldier(soldier);
        needThing(k);
        int memory = pick(now.scene.thingMemory, k);
        if (pick(now.scene.thingPlace, k) != pick(now.scene.place, soldier) || !now.canLearn(soldier, memory)) {
            throw new IllegalStateException("this cannot be gathered");
        }
        past.keep(now.scene);
        now.learn(soldier, memory);
        now.scene.takeThing(k);
        return memory;
    }

    public int read(int soldier) throws IndexOutOfBoundsException, IllegalStateException {
        needSoldier(soldier);
        if (pick(now.lore.book, soldier) == 0) {
            throw new IllegalStateException("there is no book");
        }
        past.keep(now.scene);
        return now.readAloud(soldier);
    }

    public int field(int k, int what) throws IndexOutOfBoundsException, NoSuchElementException {
        needThing(k);
        switch (what) {
            case 0:
                return pick(now.scene.thingMemory, k);
            case 1:
                return pick(now.scene.thingPlace, k);
            case 2:
                return pick(now.scene.thingOwner, k);
            default:
                throw new NoSuchElementException("what lies there has no such thing");
        }
    }

    public int plan(int side, boolean lost) throws IndexOutOfBoundsException {
        needSide(side);
        int all = pick(now.lore.plan, side);
        return lost ? all & ~now.usableBySide(side) : all;
    }

    public int shots(int soldier, int memory, boolean good) throws IndexOutOfBoundsException {
        needSoldier(soldier);
        needMemory(memory);
        return study.shotsAt(soldier, memory, good);
    }

    public int outlasts(int side, boolean good, boolean which) throws IndexOutOfBoundsException {
        needSide(side);
        int weakest = study.weakestOfPlan(side, good);
        return which || weakest == NONE ? weakest : study.shotsAtSide(side, weakest, good);
    }

    public int reserves(int side, int k) throws IndexOutOfBoundsException, IllegalArgumentException {
        needSide(side);
        needNumber(k, 1, SOLDIERS);
        return study.lackingTo(side, k);
    }

    public int company(int n) throws IllegalArgumentException {
        needNumber(n, 0, KNOWN);
        return study.obeyedByChildren(n);
    }

    public int drill(boolean many) {
        int easiest = study.easiestOrder();
        return many && easiest != NONE ? now.lore.neededInAll(easiest) : easiest;
    }

    public int duel(int one, int other) throws IndexOutOfBoundsException, IllegalArgumentException {
        needTwo(one, other);
        if (study.tooManyFor(one, other)) {
            return TOO_MANY;
        }
        return study.beginnerWins(one, other) ? one : other;
    }

    public int best(int one, int other) throws IndexOutOfBoundsException, IllegalArgumentException {
        needTwo(one, other);
        return study.tooManyFor(one, other) ? TOO_MANY : study.winningHit(one, other);
    }

    public int spread(int memory, int side, int n) throws IndexOutOfBoundsException, IllegalArgumentException {
        needMemory(memory);
        needSide(side);
        needNumber(n, 0, LONGEST);
        talk.fillCrowds(side, n);
        return talk.heardBehind(now.sideBits(side) & now.whoUse(memory), 0, n);
    }

    public int soonest(int from, int to) throws IndexOutOfBoundsException, IllegalArgumentException {
        needSoldier(from);
        needSoldier(to);
        if (!now.ofOneSide(from, to)) {
            throw new IllegalArgumentException("they are of unlike sides");
        }
        return talk.soonestHour(from, to);
    }

    public int mute(int memory, int side) throws IndexOutOfBoundsException {
        needMemory(memory);
        needSide(side);
        return talk.fewestSilent(memory, side);
    }

    public int amends(int soldier) throws IndexOutOfBoundsException {
        needSoldier(soldier);
        return study.fewestForgotten(soldier);
    }

    public int agreed() {
        return now.usableBySide(0) & now.usableBySide(1);
    }

    public int treaty(int memories, boolean undone) {
        int set = memories & now.lore.allMemories();
        if (undone) {
            return study.undoneBy(set);
        }
        int missing = set & ~(now.usableBySide(0) & now.usableBySide(1));
        return missing == 0 ? 1 : 0;
    }

    public int matches(int place, int k) throws IndexOutOfBoundsException, IllegalArgumentException {
        int size = tape.size;
        boolean told = guess.take(tape);
        tape.size = 0;
        if (place < 0 || place >= PLACES) {
            throw new IndexOutOfBoundsException("no such place");
        }
        if (!told || k < NONE || k >= size) {
            throw new IllegalArgumentException("these are no memories, or this is none of them");
        }
        guess.countWays(place);
        return k == NONE ? guess.allWays() : guess.firstGiven(k);
    }

    public int trial(int n, int what) throws IllegalArgumentException, NoSuchElementException {
        needNumber(n, 0, LONGEST);
        if (what < 0 || what > 3) {
            throw new NoSuchElementException("a trial has no such thing");
        }
        int orders = now.obeyedOrders();
        int broken = NONE;
        probe.scene.copyFrom(now.scene);
        for (int hour = 1; hour <= n; hour++) {
            probe.passHour();
            if (broken == NONE && (orders & ~probe.obeyedOrders()) != 0) {
                broken = hour;
            }
        }
        switch (what) {
            case 0:
                return probe.knownInAll();
            case 1:
                return probe.usableInAll(0) + probe.usableInAll(1);
            case 2:
                return probe.obeyedOrders();
            default:
                return broken;
        }
    }

    public int span(int side, int n, boolean most) throws IndexOutOfBoundsException, IllegalArgumentException {
        needSide(side);
        needNumber(n, 0, LONGEST_SPAN);
        int fewest = SOLDIERS * KNOWN;
        int greatest = 0;
        for (int from = 1; from <= LAST_SEED; from++) {
            probe.scene.copyFrom(now.scene);
            probe.scene.seed = from;
            for (int k = 0; k < n; k++) {
                probe.passHour();
            }
            fewest = Math.min(fewest, probe.usableInAll(side));
            greatest = Math.max(greatest, probe.usableInAll(side));
        }
        return most ? greatest : fewest;
    }

    public int meets(int one, int other) throws IndexOutOfBoundsException, IllegalArgumentException {
        needTwo(one, other);
        for (int k = 0; k <= MEET_HOURS; k++) {
            if (now.placeIn(one, k) == now.placeIn(other, k)) {
                return now.scene.hour + k;
            }
        }
        return NONE;
    }

    public int log(int ago, int what) throws NoSuchElementException {
        if (what < 0 || what > 4) {
            throw new NoSuchElementException("a row of the log has no such thing");
        }
        int row = now.scene.rowAgo(ago);
        if (row == NONE) {
            return NONE;
        }
        switch (what) {
            case 0:
                return pick(now.scene.rowHour, row);
            case 1:
                return pick(now.scene.rowBy, row);
            case 2:
                return pick(now.scene.rowWhom, row);
            case 3:
                return pick(now.scene.rowMemory, row);
            default:
                return pick(now.scene.rowGood, row);
        }
    }

    public int led(int soldier, int memory) throws IndexOutOfBoundsException {
        needSoldier(soldier);
        needMemory(memory);
        return now.scene.agoLost(soldier, memory);
    }

    public int hitter() {
        return study.mostHits();
    }

    public int seed(int n) {
        int before = now.scene.seed;
        now.scene.seed = n;
        return before;
    }

    public boolean undo() {
        return past.giveBack(now.scene);
    }

    public void image() {
        kept.copyFrom(now);
        imaged = true;
    }

    public boolean back() {
        if (!imaged) {
            return false;
        }
        now.copyFrom(kept);
        past.size = 0;
        return true;
    }

    public int count(int what) {
        switch (what) {
            case 0:
                return now.lore.memories;
            case 1:
                return now.lore.soldiers;
            case 2:
                return now.lore.orders;
            case 3:
                return now.lore.texts;
            case 4:
                return now.law.lines;
            case 5:
                return now.scene.hour;
            case 6:
                return now.scene.things;
            case 7:
                return now.knownInAll();
            case 8:
                return now.usableInAll(0) + now.usableInAll(1);
            case 9:
                return now.scene.lost;
            case 10:
                return now.scene.learnt;
            case 11:
                return now.scene.rowCount();
            case 12:
                return past.size;
            default:
                return NONE;
        }
    }

    private void needMemory(int memory) {
        if (memory < 0 || memory >= now.lore.memories) {
            throw new IndexOutOfBoundsException("no such memory");
        }
    }

    private void needSoldier(int soldier) {
        if (soldier < 0 || soldier >= now.lore.soldiers) {
            throw new IndexOutOfBoundsException("no such soldier");
        }
    }

    private void needTwo(int one, int other) {
        needSoldier(one);
        needSoldier(other);
        needUnlike(one, other);
    }

    private static void needUnlike(int one, int other) {
        if (one == other) {
            throw new IllegalArgumentException("both are one");
        }
    }

    private static void needSide(int side) {
        if (side < 0 || side > 1) {
            throw new IndexOutOfBoundsException("no such side");
        }
    }

    private void needThing(int k) {
        if (k < 0 || k >= now.scene.things) {
            throw new IndexOutOfBoundsException("no such thing in the field");
        }
    }

    private static void needNumber(int n, int least, int most) {
        if (n < least || n > most) {
            throw new IllegalArgumentException("this number is none");
        }
    }

    private static void copyRow(int[] from, int[] to) {
        System.arraycopy(from, 0, to, 0, Math.min(from.length, to.length));
    }

    /** 0 where there is no such element: an index out of the state is looked at all the same. */
    private static int pick(int[] row, int k) {
        return k >= 0 && k < row.length ? row[k] : 0;
    }

    private static void put(int[] row, int k, int value) {
        if (k >= 0 && k < row.length) {
            row[k] = value;
        }
    }

    private static boolean has(int set, int k) {
        return (set >> k & 1) != 0;
    }

    /** The TAPE, and the thing of a text on it that comes next (not used up until advance). */
    private static final class Tape {
        final int[] bytes = new int[TAPE_BYTES];
        int size;
        int kind;
        int begin;
        int stop;
        int value;

        void addNumber(int number) {
            for (int shift = 24; shift >= 0; shift -= 8) {
                put(bytes, size, number >> shift & 255);
                size++;
            }
        }

        void open() {
            stop = 0;
            advance();
        }

        void advance() {
            begin = stop;
            while (begin < size && begin < TAPE_BYTES && pick(bytes, begin) == ' ') {
                begin++;
            }
            kind = kindAt(begin);
            stop = kind == END ? begin : begin + 1;
            while (kind != SIGN && stop < size && kindAt(stop) == kind) {
                stop++;
            }
            value = kind == NUMBER ? numberRead() : pick(bytes, begin);
        }

        /** A number of more than 3 digits has no value that could be in bounds. */
        private int numberRead() {
            int sum = 0;
            for (int k = begin; k < stop && k < TAPE_BYTES; k++) {
                sum = k - begin < 3 ? sum * 10 + bytes[k] - '0' : NONE;
            }
            return sum;
        }

        private int kindAt(int k) {
            int sign = k >= 0 && k < size && k < TAPE_BYTES ? bytes[k] : NONE;
            if (sign >= 'a' && sign <= 'z') {
                return WORD;
            }
            if (sign >= '0' && sign <= '9') {
                return NUMBER;
            }
            return sign == NONE ? END : SIGN;
        }

        boolean says(String word) {
            if (kind != WORD || stop - begin != word.length()) {
                return false;
            }
            for (int k = 0; k < word.length() && begin + k < TAPE_BYTES; k++) {
                if (pick(bytes, begin + k) != word.charAt(k)) {
                    return false;
                }
            }
            return true;
        }

        boolean isSign(int sign) {
            return kind == SIGN && value == sign;
        }

        boolean takeSign(int sign) {
            if (!isSign(sign)) {
                return false;
            }
            advance();
            return true;
        }

        boolean isNumber(int least, int most) {
            return kind == NUMBER && value >= least && value <= most;
        }
    }

    /** What the texts of THE WAR have told and no HOUR changes. */
    private static final class Lore {
        int texts;
        int memories;
        int soldiers;
        int orders;
        final int[] worth = new int[MEMORIES];
        final int[] needs = new int[MEMORIES];
        final int[] bears = new int[MEMORIES];
        final int[] rests = new int[MEMORIES];
        final int[] clash = new int[MEMORIES];
        final int[] side = new int[SOLDIERS];
        final int[] book = new int[SOLDIERS];
        final int[] routeSize = new int[SOLDIERS];
        final int[] route = new int[SOLDIERS * ROUTE];
        final int[] orderOf = new int[ORDERS];
        final int[] orderSet = new int[ORDERS];
        final int[] plan = new int[2];

        void copyFrom(Lore other) {
            texts = other.texts;
            memories = other.memories;
            soldiers = other.soldiers;
            orders = other.orders;
            copyRow(other.worth, worth);
            copyRow(other.needs, needs);
            copyRow(other.bears, bears);
            copyRow(other.rests, rests);
            copyRow(other.clash, clash);
            copyRow(other.side, side);
            copyRow(other.book, book);
            copyRow(other.routeSize, routeSize);
            copyRow(other.route, route);
            copyRow(other.orderOf, orderOf);
            copyRow(other.orderSet, orderSet);
            copyRow(other.plan, plan);
        }

        void addMemory(int value, int needed) {
            if (memories >= MEMORIES) {
                return;
            }
            int all = needed;
            for (int m = 0; m < memories; m++) {
                if (has(needed, m)) {
                    all |= pick(bears, m);
                }
            }
            for (int m = 0; m < memories; m++) {
                if (has(all, m)) {
                    put(rests, m, pick(rests, m) | 1 << memories);
                }
            }
            put(worth, memories, value);
            put(needs, memories, needed);
            put(bears, memories, all);
            put(rests, memories, 0);
            put(clash, memories, 0);
            memories++;
        }

        void addOrder(int whose, int set) {
            if (orders < ORDERS) {
                put(orderOf, orders, whose);
                put(orderSet, orders, set);
                orders++;
            }
        }

        int allMemories() {
            return (1 << memories) - 1;
        }

        /** Of a known set: a MEMORY is USABLE just if all that bears it is known, too. */
        int usableOf(int known) {
            int usable = 0;
            for (int m = 0; m < memories; m++) {
                if (has(known, m) && (pick(bears, m) & ~known) == 0) {
                    usable |= 1 << m;
                }
            }
            return usable;
        }

        int worthOf(int set) {
            int sum = 0;
            for (int m = 0; m < memories; m++) {
                if (has(set, m)) {
                    sum += pick(worth, m);
                }
            }
            return sum;
        }

        /** The MEMORIES of a set that need no other. */
        int rootsIn(int set) {
            int roots = 0;
            for (int m = 0; m < memories; m++) {
                if (has(set, m) && pick(needs, m) == 0) {
                    roots |= 1 << m;
                }
            }
            return roots;
        }

        int ordersOf(int soldier) {
            int found = 0;
            for (int k = 0; k < orders; k++) {
                if (pick(orderOf, k) == soldier) {
                    found |= 1 << k;
                }
            }
            return found;
        }

        int neededInAll(int order) {
            int set = pick(orderSet, order);
            int all = set;
            for (int m = 0; m < memories; m++) {
                if (has(set, m)) {
                    all |= pick(bears, m);
                }
            }
            return Integer.bitCount(all);
        }
    }

    /** Reads a text of THE WAR into a draft; where it stops, the tape's next thing is the wrong one. */
    private static final class WarText {
        private final Tape tape;
        private final World world;
        private final Lore lore;
        private int set;

        WarText(Tape tape, World world) {
            this.tape = tape;
            this.world = world;
            this.lore = world.lore;
        }

        boolean readAll() {
            tape.open();
            if (tape.kind == END) {
                return true;
            }
            for (int k = 0; k < WAR_LINES; k++) {
                if (!readLine()) {
                    return false;
                }
                if (tape.kind == END) {
                    return true;
                }
                if (!tape.takeSign(';')) {
                    return false;
                }
            }
            return false;
        }

        private boolean readLine() {
            if (tape.says("memory")) {
                return memoryLine();
            }
            if (tape.says("soldier")) {
                return soldierLine();
            }
            if (tape.says("knows")) {
                return knowsLine();
            }
            if (tape.says("book")) {
                return bookLine();
            }
            if (tape.says("order")) {
                return orderLine();
            }
            if (tape.says("plan")) {
                return planLine();
            }
            return tape.says("clash") && clashLine();
        }

        private boolean memoryLine() {
            if (lore.memories >= MEMORIES) {
                return false;
            }
            tape.advance();
            if (!tape.isNumber(1, 99)) {
                return false;
            }
            int worth = tape.value;
            int needed = 0;
            tape.advance();
            if (tape.says("needs")) {
                tape.advance();
                if (!readSet()) {
                    return false;
                }
                needed = set;
            }
            lore.addMemory(worth, needed);
            return true;
        }

        private boolean soldierLine() {
            int soldier = lore.soldiers;
            if (soldier >= SOLDIERS) {
                return false;
            }
            tape.advance();
            if (!tape.isNumber(0, 1)) {
                return false;
            }
            put(lore.side, soldier, tape.value);
            tape.advance();
            int size = 0;
            while (size <= ROUTE && tape.kind == NUMBER) {
                if (size == ROUTE || !tape.isNumber(0, PLACES - 1)) {
                    return false;
                }
                put(lore.route, soldier * ROUTE + size, tape.value);
                size++;
                tape.advance();
            }
            if (size == 0) {
                return false;
            }
            put(lore.routeSize, soldier, size);
            put(lore.book, soldier, 0);
            lore.soldiers++;
            world.enter(soldier);
            return true;
        }

        private boolean knowsLine() {
            tape.advance();
            if (!isSoldier()) {
                return false;
            }
            int soldier = tape.value;
            tape.advance();
            int read = 0;
            for (; read <= KNOWN && tape.kind == NUMBER; read++) {
                if (!isMemory() || !world.isNewTo(soldier, tape.value)) {
                    return false;
                }
                world.addKnown(soldier, tape.value);
                tape.advance();
            }
            return read > 0;
        }

        private boolean bookLine() {
            tape.advance();
            if (!isSoldier()) {
                return false;
            }
            int soldier = tape.value;
            tape.advance();
            if (!readSet()) {
                return false;
            }
            put(lore.book, soldier, pick(lore.book, soldier) | set);
            return true;
        }

        private boolean orderLine() {
            if (lore.orders >= ORDERS) {
                return false;
            }
            tape.advance();
            if (!isSoldier()) {
                return false;
            }
            int soldier = tape.value;
            tape.advance();
            if (!readSet()) {
                return false;
            }
            lore.addOrder(soldier, set);
            return true;
        }

        private boolean planLine() {
            tape.advance();
            if (!tape.isNumber(0, 1)) {
                return false;
            }
            int side = tape.value;
            tape.advance();
            if (!readSet()) {
                return false;
            }
            put(lore.plan, side, pick(lore.plan, side) | set);
            return true;
        }

        private boolean clashLine() {
            tape.advance();
            if (!isMemory()) {
                return false;
            }
            int one = tape.value;
            tape.advance();
            if (!isMemory() || tape.value == one) {
                return false;
            }
            int other = tape.value;
            put(lore.clash, one, pick(lore.clash, one) | 1 << other);
            put(lore.clash, other, pick(lore.clash, other) | 1 << one);
            tape.advance();
            return true;
        }

        private boolean isMemory() {
            return tape.isNumber(0, lore.memories - 1);
        }

        private boolean isSoldier() {
            return tape.isNumber(0, lore.soldiers - 1);
        }

        private boolean readSet() {
            set = 0;
            int read = 0;
            for (; read < TAPE_BYTES && tape.kind == NUMBER; read++) {
                if (!isMemory()) {
                    return false;
                }
                set |= 1 << tape.value;
                tape.advance();
            }
            return read > 0;
        }
    }

    /** THE LAW: its LINES, and their conditions as one code in which each sign stands behind what it joins. */
    private static final class Law {
        private static final int STACK = 40;

        int lines = NONE;
        int size;
        final int[] kind = new int[LAW_LINES];
        final int[] amount = new int[LAW_LINES];
        final int[] from = new int[LAW_LINES];
        final int[] to = new int[LAW_LINES];
        final int[] code = new int[TAPE_BYTES];
        final int[] parts = new int[PART_COUNT];
        private final int[] stack = new int[STACK];

        void copyFrom(Law other) {
            lines = other.lines;
            size = other.size;
            copyRow(other.kind, kind);
            copyRow(other.amount, amount);
            copyRow(other.from, from);
            copyRow(other.to, to);
            copyRow(other.code, code);
        }

        void begin() {
            lines = 0;
            size = 0;
        }

        void emit(int op) {
            put(code, size, op);
            size++;
        }

        void addLine(int lineKind, int n, int start) {
            put(kind, lines, lineKind);
            put(amount, lines, n);
            put(from, lines, start);
            put(to, lines, size);
            lines++;
        }

        int withoutText(int lineKind) {
            switch (lineKind) {
                case AIM:
                    return 50;
                case GOOD:
                    return 20;
                default:
                    return 1;
            }
        }

        /** By the parts as they were put last. */
        int sumOf(int lineKind) {
            int sum = 0;
            for (int k = 0; k < lines && k < LAW_LINES; k++) {
                if (pick(kind, k) == lineKind && holds(k)) {
                    sum += pick(amount, k);
                }
            }
            return Math.min(sum, 100);
        }

        private boolean holds(int line) {
            int start = pick(from, line);
            int stop = pick(to, line);
            if (start >= stop) {
                return true;
            }
            int top = 0;
            for (int k = start; k < stop; k++) {
                top = apply(pick(code, k), top);
            }
            return stack[0] != 0;
        }

        private int apply(int op, int top) {
            if (op < PLUS) {
                put(stack, top, op < PARTS ? op : pick(parts, op - PARTS));
                return top + 1;
            }
            if (op == NOT) {
                put(stack, top - 1, 1 - pick(stack, top - 1));
                return top;
            }
            put(stack, top - 2, joined(op, pick(stack, top - 2), pick(stack, top - 1)));
            return top - 1;
        }

        private static int joined(int op, int one, int other) {
            switch (op) {
                case PLUS:
                    return one + other;
                case LESS:
                    return one < other ? 1 : 0;
                case MORE:
                    return one > other ? 1 : 0;
                case AND:
                    return one & other;
                default:
                    return one | other;
            }
        }
    }

    /** Reads a text of THE LAW into a draft; where it stops, the tape's next thing is the wrong one. */
    private static final class LawText {
        private final Tape tape;
        private final Law law;

        LawText(Tape tape, Law law) {
            this.tape = tape;
            this.law = law;
        }

        boolean readAll() {
            law.begin();
            tape.open();
            if (tape.kind == END) {
                return true;
            }
            for (int k = 0; k < LAW_LINES; k++) {
                if (!readLine()) {
                    return false;
                }
                if (tape.kind == END) {
                    return true;
                }
                if (!tape.takeSign(';')) {
                    return false;
                }
            }
            return false;
        }

        private boolean readLine() {
            int kind = lineKind();
            if (kind == NONE) {
                return false;
            }
            tape.advance();
            int n = 1;
            if (kind != READ) {
                if (!tape.isNumber(0, 999)) {
                    return false;
                }
                n = tape.value;
                tape.advance();
            }
            int start = law.size;
            if (tape.says("if")) {
                tape.advance();
                if (!anyOf(0)) {
                    return false;
                }
            }
            law.addLine(kind, n, start);
            return true;
        }

        private int lineKind() {
            if (tape.says("aim")) {
                return AIM;
            }
            if (tape.says("good")) {
                return GOOD;
            }
            return tape.says("read") ? READ : NONE;
        }

        private boolean anyOf(int depth) {
            if (!allOf(depth)) {
                return false;
            }
            for (int k = 0; k < TAPE_BYTES && tape.says("or"); k++) {
                tape.advance();
                if (!allOf(depth)) {
                    return false;
                }
                law.emit(OR);
            }
            return true;
        }

        private boolean allOf(int depth) {
            if (!atom(depth)) {
                return false;
            }
            for (int k = 0; k < TAPE_BYTES && tape.says("and"); k++) {
                tape.advance();
                if (!atom(depth)) {
                    return false;
                }
                law.emit(AND);
            }
            return true;
        }

        /** The depth tells within how many ( and not it stands. */
        private boolean atom(int depth) {
            if (tape.says("not")) {
                return depth < DEPTH && denied(depth + 1);
            }
            if (tape.isSign('(')) {
                return depth < DEPTH && bracketed(depth + 1);
            }
            if (tape.says("alone")) {
                tape.advance();
                law.emit(PARTS + PART_ALONE);
                return true;
            }
            if (!sum()) {
                return false;
            }
            int sign = tape.isSign('<') ? LESS : MORE;
            if (sign == MORE && !tape.isSign('>')) {
                return false;
            }
            tape.advance();
            if (!sum()) {
                return false;
            }
            law.emit(sign);
            return true;
        }

        private boolean denied(int depth) {
            tape.advance();
            if (!atom(depth)) {
                return false;
            }
            law.emit(NOT);
            return true;
        }

        private boolean bracketed(int depth) {
            tape.advance();
            return anyOf(depth) && tape.takeSign(')');
        }

        private boolean sum() {
            for (int k = 0; k < TAPE_BYTES; k++) {
                int op = tape.isNumber(0, 999) ? tape.value : partWord();
                if (op == NONE) {
                    return false;
                }
                law.emit(op);
                if (k > 0) {
                    law.emit(PLUS);
                }
                tape.advance();
                if (!tape.isSign('+')) {
                    return true;
                }
                tape.advance();
            }
            return false;
        }

        private int partWord() {
            if (tape.says("soldier")) {
                return PARTS + PART_SOLDIER;
            }
            if (tape.says("side")) {
                return PARTS + PART_SIDE;
            }
            if (tape.says("place")) {
                return PARTS + PART_PLACE;
            }
            if (tape.says("hour")) {
                return PARTS + PART_HOUR;
            }
            if (tape.says("known")) {
                return PARTS + PART_KNOWN;
            }
            if (tape.says("usable")) {
                return PARTS + PART_USABLE;
            }
            return tape.says("foes") ? PARTS + PART_FOES : NONE;
        }
    }

    /** What HOURS and ACTS change: where all are, what they know, the FIELD, THE LOG. */
    private static final class Scene {
        int hour;
        int seed = 1;
        int lost;
        int learnt;
        int things;
        final int[] step = new int[SOLDIERS];
        final int[] place = new int[SOLDIERS];
        final int[] many = new int[SOLDIERS];
        final int[] known = new int[SOLDIERS];
        final int[] usable = new int[SOLDIERS];
        final int[] knows = new int[SOLDIERS * KNOWN];
        final int[] thingMemory = new int[THINGS];
        final int[] thingPlace = new int[THINGS];
        final int[] thingOwner = new int[THINGS];
        final int[] rowHour = new int[ROWS];
        final int[] rowBy = new int[ROWS];
        final int[] rowWhom = new int[ROWS];
        final int[] rowMemory = new int[ROWS];
        final int[] rowGood = new int[ROWS];

        void copyFrom(Scene other) {
            hour = other.hour;
            seed = other.seed;
            lost = other.lost;
            learnt = other.learnt;
            things = other.things;
            copyRow(other.step, step);
            copyRow(other.place, place);
            copyRow(other.many, many);
            copyRow(other.known, known);
            copyRow(other.usable, usable);
            copyRow(other.knows, knows);
            copyRow(other.thingMemory, thingMemory);
            copyRow(other.thingPlace, thingPlace);
            copyRow(other.thingOwner, thingOwner);
            copyRow(other.rowHour, rowHour);
            copyRow(other.rowBy, rowBy);
            copyRow(other.rowWhom, rowWhom);
            copyRow(other.rowMemory, rowMemory);
            copyRow(other.rowGood, rowGood);
        }

        int draw() {
            seed = 1103515245 * seed + 12345;
            return seed >> 16 & 32767;
        }

        int knownAt(int soldier, int k) {
            return k >= 0 && k < pick(many, soldier) ? pick(knows, soldier * KNOWN + k) : NONE;
        }

        void append(int soldier, int memory) {
            int size = pick(many, soldier);
            if (size < KNOWN) {
                put(knows, soldier * KNOWN + size, memory);
                put(many, soldier, size + 1);
                put(known, soldier, pick(known, soldier) | 1 << memory);
            }
        }

        void forget(int soldier, int memory) {
            int size = pick(many, soldier);
            int left = 0;
            for (int k = 0; k < size; k++) {
                int next = pick(knows, soldier * KNOWN + k);
                if (next != memory) {
                    put(knows, soldier * KNOWN + left, next);
                    left++;
                }
            }
            put(many, soldier, left);
            put(known, soldier, pick(known, soldier) & ~(1 << memory));
        }

        void layDown(int memory, int where, int owner) {
            if (things >= THINGS) {
                takeThing(0);
            }
            put(thingMemory, things, memory);
            put(thingPlace, things, where);
            put(thingOwner, things, owner);
            things++;
        }

        void takeThing(int k) {
            int behind = things - 1 - k;
            if (k < 0 || behind < 0 || things > THINGS) {
                return;
            }
            System.arraycopy(thingMemory, k + 1, thingMemory, k, behind);
            System.arraycopy(thingPlace, k + 1, thingPlace, k, behind);
            System.arraycopy(thingOwner, k + 1, thingOwner, k, behind);
            things--;
        }

        int timesInField(int memory) {
            int times = 0;
            for (int k = 0; k < things && k < THINGS; k++) {
                if (pick(thingMemory, k) == memory) {
                    times++;
                }
            }
            return times;
        }

        /** Each SHOT that hits is one LOST, so that LOST numbers the rows, and they go round. */
        void writeRow(int by, int whom, int memory, boolean good) {
            int row = lost % ROWS;
            put(rowHour, row, hour);
            put(rowBy, row, by);
            put(rowWhom, row, whom);
            put(rowMemory, row, memory);
            put(rowGood, row, good ? 1 : 0);
            lost++;
        }

        int rowCount() {
            return Math.min(lost, ROWS);
        }

        int rowAgo(int ago) {
            return ago >= 0 && ago < rowCount() ? (lost - 1 - ago) % ROWS : NONE;
        }

        int agoLost(int soldier, int memory) {
            int count = rowCount();
            for (int ago = 0; ago < count; ago++) {
                int row = rowAgo(ago);
                if (pick(rowWhom, row) == soldier && pick(rowMemory, row) == memory) {
                    return ago;
                }
            }
            return NONE;
        }
    }

    /** THE WAR as it stands: what was told, THE LAW, the scene, and how HOURS and ACTS change it. */
    private static final class World {
        final Lore lore;
        final Law law;
        final Scene scene;

        World(Lore lore, Law law) {
            this.lore = lore;
            this.law = law;
            this.scene = new Scene();
        }

        void copyFrom(World other) {
            lore.copyFrom(other.lore);
            law.copyFrom(other.law);
            scene.copyFrom(other.scene);
        }

        void enter(int soldier) {
            put(scene.step, soldier, 0);
            put(scene.place, soldier, pick(lore.route, soldier * ROUTE));
            put(scene.many, soldier, 0);
            put(scene.known, soldier, 0);
            put(scene.usable, soldier, 0);
        }

        boolean isNewTo(int soldier, int memory) {
            return !has(pick(scene.known, soldier), memory) && pick(scene.many, soldier) < KNOWN;
        }

        void addKnown(int soldier, int memory) {
            scene.append(soldier, memory);
            put(scene.usable, soldier, lore.usableOf(pick(scene.known, soldier)));
        }

        /** Also behind now: hours below 0 are those that went by. */
        int placeIn(int soldier, int hours) {
            int size = pick(lore.routeSize, soldier);
            if (size < 1) {
                return NONE;
            }
            int step = Math.floorMod(pick(scene.step, soldier) + hours, size);
            return pick(lore.route, soldier * ROUTE + step);
        }

        boolean together(int one, int other) {
            return pick(scene.place, one) == pick(scene.place, other);
        }

        boolean ofOneSide(int one, int other) {
            return pick(lore.side, one) == pick(lore.side, other);
        }

        boolean canUse(int soldier, int memory) {
            return has(pick(scene.usable, soldier), memory);
        }

        boolean canLearn(int soldier, int memory) {
            return isNewTo(soldier, memory) && (pick(lore.needs, memory) & ~pick(scene.usable, soldier)) == 0;
        }

        void learn(int soldier, int memory) {
            addKnown(soldier, memory);
            scene.learnt++;
        }

        int fallsOf(int soldier, int memory) {
            return Integer.bitCount(pick(scene.usable, soldier) & (pick(lore.rests, memory) | 1 << memory));
        }

        int hit(int by, int whom, boolean good) {
            int memory = good ? dearestOf(whom) : scene.knownAt(whom, pick(scene.many, whom) - 1);
            if (memory == NONE) {
                return NONE;
            }
            scene.forget(whom, memory);
            put(scene.usable, whom, lore.usableOf(pick(scene.known, whom)));
            scene.layDown(memory, pick(scene.place, whom), whom);
            scene.writeRow(by, whom, memory, good);
            return memory;
        }

        private int dearestOf(int soldier) {
            int known = pick(scene.known, soldier);
            int dearest = NONE;
            int most = NONE;
            for (int m = 0; m < lore.memories; m++) {
                int falls = has(known, m) ? fallsOf(soldier, m) : NONE;
                if (falls > most) {
                    dearest = m;
                    most = falls;
                }
            }
            return dearest;
        }

        int readAloud(int reader) {
            int before = scene.learnt;
            int set = pick(lore.book, reader);
            for (int pupil = 0; pupil < lore.soldiers; pupil++) {
                int open = set & ~pick(scene.known, pupil);
                if (open != 0 && ofOneSide(reader, pupil) && together(reader, pupil)) {
                    learnAll(pupil, open);
                }
            }
            return scene.learnt - before;
        }

        private void learnAll(int soldier, int set) {
            for (int m = 0; m < lore.memories; m++) {
                if (has(set, m) && canLearn(soldier, m)) {
                    learn(soldier, m);
                }
            }
        }

        void passHour() {
            for (int k = 0; k < lore.soldiers; k++) {
                goOn(k);
            }
            for (int k = 0; k < lore.soldiers; k++) {
                fire(k);
            }
            for (int k = 0; k < lore.soldiers; k++) {
                if (pick(lore.book, k) != 0 && ruled(k, READ) > 0) {
                    readAloud(k);
                }
            }
            scene.hour++;
        }

        private void goOn(int soldier) {
            int next = pick(scene.step, soldier) + 1;
            if (next >= pick(lore.routeSize, soldier)) {
                next = 0;
            }
            put(scene.step, soldier, next);
            put(scene.place, soldier, pick(lore.route, soldier * ROUTE + next));
        }

        private void fire(int soldier) {
            int whom = targetOf(soldier);
            if (whom == NONE) {
                return;
            }
            if (scene.draw() % 100 < ruled(soldier, AIM)) {
                boolean good = scene.draw() % 100 < ruled(soldier, GOOD);
                hit(soldier, whom, good);
            }
        }

        /** Who has nothing USABLE shoots at nobody. */
        int targetOf(int soldier) {
            int whom = NONE;
            int most = 0;
            if (pick(scene.usable, soldier) == 0) {
                return NONE;
            }
            for (int k = 0; k < lore.soldiers; k++) {
                int many = pick(scene.many, k);
                if (many > most && !ofOneSide(soldier, k) && together(soldier, k)) {
                    whom = k;
                    most = many;
                }
            }
            return whom;
        }

        /** AIM, GOOD, or above 0 if one READS. */
        int ruled(int soldier, int kind) {
            if (law.lines == NONE) {
                return law.withoutText(kind);
            }
            int foes = 0;
            int friends = 0;
            for (int k = 0; k < lore.soldiers; k++) {
                if (k != soldier && together(soldier, k)) {
                    if (ofOneSide(soldier, k)) {
                        friends++;
                    } else {
                        foes++;
                    }
                }
            }
            law.parts[PART_SOLDIER] = soldier;
            law.parts[PART_SIDE] = pick(lore.side, soldier);
            law.parts[PART_PLACE] = pick(scene.place, soldier);
            law.parts[PART_HOUR] = scene.hour;
            law.parts[PART_KNOWN] = pick(scene.many, soldier);
            law.parts[PART_USABLE] = Integer.bitCount(pick(scene.usable, soldier));
            law.parts[PART_FOES] = foes;
            law.parts[PART_ALONE] = friends == 0 ? 1 : 0;
            return law.sumOf(kind);
        }

        int whoKnow(int memory) {
            int who = 0;
            for (int k = 0; k < lore.soldiers; k++) {
                if (has(pick(scene.known, k), memory)) {
                    who |= 1 << k;
                }
            }
            return who;
        }

        int whoUse(int memory) {
            int who = 0;
            for (int k = 0; k < lore.soldiers; k++) {
                if (canUse(k, memory)) {
                    who |= 1 << k;
                }
            }
            return who;
        }

        int sideBits(int side) {
            int who = 0;
            for (int k = 0; k < lore.soldiers; k++) {
                if (pick(lore.side, k) == side) {
                    who |= 1 << k;
                }
            }
            return who;
        }

        int usableBySide(int side) {
            int set = 0;
            for (int k = 0; k < lore.soldiers; k++) {
                if (pick(lore.side, k) == side) {
                    set |= pick(scene.usable, k);
                }
            }
            return set;
        }

        int usableInAll(int side) {
            int sum = 0;
            for (int k = 0; k < lore.soldiers; k++) {
                if (pick(lore.side, k) == side) {
                    sum += Integer.bitCount(pick(scene.usable, k));
                }
            }
            return sum;
        }

        int knownInAll() {
            int sum = 0;
            for (int k = 0; k < lore.soldiers; k++) {
                sum += pick(scene.many, k);
            }
            return sum;
        }

        int obeyedOrders() {
            int obeyed = 0;
            for (int k = 0; k < lore.orders; k++) {
                int usable = pick(scene.usable, pick(lore.orderOf, k));
                if ((pick(lore.orderSet, k) & ~usable) == 0) {
                    obeyed |= 1 << k;
                }
            }
            return obeyed;
        }
    }

    /** The scenes ahead of the latest ACTS and HOURS. */
    private static final class Past {
        private final Scene[] scenes;
        int size;

        Past() {
            scenes = new Scene[ACTS];
            for (int k = 0; k < ACTS; k++) {
                scenes[k] = new Scene();
            }
        }

        void keep(Scene scene) {
            if (size >= ACTS) {
                forgetOldest();
            }
            Scene free = size >= 0 && size < ACTS ? scenes[size] : null;
            if (free != null) {
                free.copyFrom(scene);
                size++;
            }
        }

        private void forgetOldest() {
            Scene oldest = scenes[0];
            for (int k = 1; k < ACTS; k++) {
                scenes[k - 1] = scenes[k];
            }
            scenes[ACTS - 1] = oldest;
            size = ACTS - 1;
        }

        boolean giveBack(Scene scene) {
            Scene latest = size > 0 && size <= ACTS ? scenes[size - 1] : null;
            if (latest == null) {
                return false;
            }
            scene.copyFrom(latest);
            size--;
            return true;
        }
    }

    /** What can be told of PLANS, ORDERS, duels, clashes and treaties as all stands now. */
    private static final class Study {
        private final World world;
        private final Lore lore;
        private final Scene scene;
        private final int[] hits;

        Study(World world) {
            this.world = world;
            this.lore = world.lore;
            this.scene = world.scene;
            this.hits = new int[SOLDIERS];
        }

        int shotsAt(int soldier, int memory, boolean good) {
            if (!world.canUse(soldier, memory)) {
                return 0;
            }
            if (good) {
                return 1;
            }
            int needed = pick(lore.bears, memory) | 1 << memory;
            int size = pick(scene.many, soldier);
            for (int k = size - 1; k >= 0; k--) {
                if (has(needed, scene.knownAt(soldier, k))) {
                    return size - k;
                }
            }
            return 0;
        }

        int shotsAtSide(int side, int memory, boolean good) {
            int sum = 0;
            for (int k = 0; k < lore.soldiers; k++) {
                if (pick(lore.side, k) == side) {
                    sum += shotsAt(k, memory, good);
                }
            }
            return sum;
        }

        int weakestOfPlan(int side, boolean good) {
            int weakest = NONE;
            int fewest = 0;
            for (int m = 0; m < lore.memories; m++) {
                if (has(pick(lore.plan, side), m)) {
                    int shots = shotsAtSide(side, m, good);
                    if (weakest == NONE || shots < fewest) {
                        weakest = m;
                        fewest = shots;
                    }
                }
            }
            return weakest;
        }

        int lackingTo(int side, int k) {
            int sum = 0;
            for (int m = 0; m < lore.memories; m++) {
                if (has(pick(lore.plan, side), m)) {
                    int lack = k - Integer.bitCount(world.whoUse(m) & world.sideBits(side));
                    if (lack > pupilsFor(side, m)) {
                        return NONE;
                    }
                    sum += Math.max(lack, 0);
                }
            }
            return sum;
        }

        private int pupilsFor(int side, int memory) {
            int pupils = 0;
            for (int k = 0; k < lore.soldiers; k++) {
                if (pick(lore.side, k) == side && world.canLearn(k, memory)) {
                    pupils++;
                }
            }
            return pupils;
        }

        int obeyedByChildren(int n) {
            int obeyed = 0;
            for (int k = 0; k < lore.orders; k++) {
                int usable = lore.usableOf(firstKnown(pick(lore.orderOf, k), n));
                if ((pick(lore.orderSet, k) & ~usable) == 0) {
                    obeyed |= 1 << k;
                }
            }
            return obeyed;
        }

        private int firstKnown(int soldier, int n) {
            int size = Math.min(n, pick(scene.many, soldier));
            int set = 0;
            for (int k = 0; k < size; k++) {
                set |= 1 << scene.knownAt(soldier, k);
            }
            return set;
        }

        int easiestOrder() {
            int easiest = NONE;
            int fewest = 0;
            for (int k = 0; k < lore.orders; k++) {
                int needed = lore.neededInAll(k);
                if (easiest == NONE || needed < fewest) {
                    easiest = k;
                    fewest = needed;
                }
            }
            return easiest;
        }

        boolean tooManyFor(int one, int other) {
            return pick(scene.many, one) > DUEL_KNOWN || pick(scene.many, other) > DUEL_KNOWN;
        }

        private int rootsOf(int soldier) {
            return lore.rootsIn(pick(scene.known, soldier));
        }

        boolean beginnerWins(int one, int other) {
            return winsRace(Integer.bitCount(rootsOf(one)), Integer.bitCount(rootsOf(other)));
        }

        /*
         * Something is USABLE just while a MEMORY that needs none is known, and no hit helps
         * oneself but by bringing the other nearer to having none of these: a duel is a race.
         */
        private static boolean winsRace(int own, int others) {
            return own >= 1 && own >= others;
        }

        int winningHit(int one, int other) {
            int own = Integer.bitCount(rootsOf(one));
            int roots = rootsOf(other);
            if (own < 1) {
                return NONE;
            }
            for (int m = 0; m < lore.memories; m++) {
                if (has(pick(scene.known, other), m) && !winsRace(Integer.bitCount(roots & ~(1 << m)), own)) {
                    return m;
                }
            }
            return NONE;
        }

        /** Only what is USABLE is worth forgetting: nothing rests on the others. */
        int fewestForgotten(int soldier) {
            int usable = pick(scene.usable, soldier);
            int size = Integer.bitCount(usable);
            int best = usable;
            int forgotten = 0;
            for (int k = 0; k < 1 << size; k++) {
                if (Integer.bitCount(forgotten) < Integer.bitCount(best) && isPeaceful(leftOf(usable, forgotten))) {
                    best = forgotten;
                }
                forgotten = forgotten - usable & usable;
            }
            return best;
        }

        private int leftOf(int usable, int forgotten) {
            int left = usable & ~forgotten;
            for (int m = 0; m < lore.memories; m++) {
                if (has(forgotten, m)) {
                    left &= ~pick(lore.rests, m);
                }
            }
            return left;
        }

        private boolean isPeaceful(int set) {
            for (int m = 0; m < lore.memories; m++) {
                if (has(set, m) && (pick(lore.clash, m) & set) != 0) {
                    return false;
                }
            }
            return true;
        }

        int undoneBy(int set) {
            int fewest = NONE;
            for (int m = 0; m < lore.memories; m++) {
                if (has(set, m)) {
                    int who = world.whoUse(m);
                    int one = Integer.bitCount(who & world.sideBits(0));
                    int other = Integer.bitCount(who & world.sideBits(1));
                    int fewer = Math.min(one, other);
                    fewest = fewest == NONE ? fewer : Math.min(fewest, fewer);
                }
            }
            return fewest;
        }

        int mostHits() {
            for (int k = 0; k < SOLDIERS; k++) {
                hits[k] = 0;
            }
            int count = scene.rowCount();
            for (int row = 0; row < count; row++) {
                int by = pick(scene.rowBy, row);
                put(hits, by, pick(hits, by) + 1);
            }
            int best = NONE;
            int most = 0;
            for (int k = 0; k < SOLDIERS; k++) {
                if (pick(hits, k) > most) {
                    best = k;
                    most = pick(hits, k);
                }
            }
            return best;
        }
    }

    /** How a word goes round in a SIDE while all go on by their ROUTES. */
    private static final class Talk {
        private final World world;
        private final int[] crowds;
        private int team;

        Talk(World world) {
            this.world = world;
            this.crowds = new int[(LONGEST + 1) * PLACES];
        }

        /** Who of the SIDE is in which PLACE, HOUR by HOUR from now. */
        void fillCrowds(int side, int hours) {
            team = world.sideBits(side);
            for (int k = 0; k < (hours + 1) * PLACES; k++) {
                put(crowds, k, 0);
            }
            for (int soldier = 0; soldier < SOLDIERS; soldier++) {
                if (has(team, soldier)) {
                    fillWay(soldier, hours);
                }
            }
        }

        private void fillWay(int soldier, int hours) {
            for (int hour = 0; hour <= hours; hour++) {
                int k = hour * PLACES + world.placeIn(soldier, hour);
                put(crowds, k, pick(crowds, k) | 1 << soldier);
            }
        }

        private int heardIn(int hour, int heard, int silent) {
            int all = heard;
            for (int place = 0; place < PLACES; place++) {
                int crowd = pick(crowds, hour * PLACES + place);
                if ((crowd & heard & ~silent) != 0) {
                    all |= crowd;
                }
            }
            return all;
        }

        int heardBehind(int first, int silent, int hours) {
            int heard = first;
            for (int hour = 0; hour <= hours && heard != team; hour++) {
                heard = heardIn(hour, heard, silent);
            }
            return heard;
        }

        int soonestHour(int from, int to) {
            fillCrowds(pick(world.lore.side, from), LONGEST);
            int heard = 1 << from;
            for (int hour = 0; hour <= LONGEST; hour++) {
                heard = heardIn(hour, heard, 0);
                if (has(heard, to)) {
                    return hour;
                }
            }
            return NONE;
        }

        /** If all are silent, just those to whom it is USABLE have heard it. */
        int fewestSilent(int memory, int side) {
            int all = world.sideBits(side);
            int first = world.whoUse(memory) & all;
            if (first == all) {
                return NO_MUTE;
            }
            fillCrowds(side, MUTE_HOURS);
            int best = all;
            for (int silent = 0; silent < all; silent++) {
                boolean fewer = (silent & ~all) == 0 && Integer.bitCount(silent) < Integer.bitCount(best);
                if (fewer && heardBehind(first, silent, MUTE_HOURS) != all) {
                    best = silent;
                }
            }
            return best;
        }
    }

    /** Whose the told MEMORIES can be. */
    private static final class Guess {
        private final World world;
        private final int[] told;
        private final int[] owners;
        private final int[] ways;
        private int size;

        Guess(World world) {
            this.world = world;
            this.told = new int[TOLD];
            this.owners = new int[TOLD];
            this.ways = new int[1 << SOLDIERS];
        }

        /** Whether the tape tells MEMORIES, and not too many. */
        boolean take(Tape tape) {
            size = 0;
            if (tape.size > TOLD) {
                return false;
            }
            for (int k = 0; k < tape.size; k++) {
                int memory = pick(tape.bytes, k);
                if (memory >= world.lore.memories) {
                    return false;
                }
                put(told, k, memory);
            }
            size = tape.size;
            return true;
        }

        /** Of each set of SOLDIERS who have got the first ones: in how many ways the others can be given. */
        void countWays(int place) {
            for (int k = 0; k < size && k < TOLD; k++) {
                owners[k] = ownersOf(told[k], place);
            }
            for (int given = (1 << world.lore.soldiers) - 1; given >= 0; given--) {
                put(ways, given, waysBehind(given));
            }
        }

        private int waysBehind(int given) {
            int next = Integer.bitCount(given);
            if (next >= size) {
                return next == size ? 1 : 0;
            }
            int sum = 0;
            for (int k = 0; k < world.lore.soldiers; k++) {
                if (has(pick(owners, next) & ~given, k)) {
                    sum += pick(ways, given | 1 << k);
                }
            }
            return sum;
        }

        private int ownersOf(int memory, int place) {
            int knowing = world.whoKnow(memory);
            int found = 0;
            for (int k = 0; k < world.lore.soldiers; k++) {
                if (!has(knowing, k) && wasAt(k, place)) {
                    found |= 1 << k;
                }
            }
            return found;
        }

        private boolean wasAt(int soldier, int place) {
            int back = Math.min(world.scene.hour, ROUTE - 1);
            for (int ago = 0; ago <= back; ago++) {
                if (world.placeIn(soldier, -ago) == place) {
                    return true;
                }
            }
            return false;
        }

        int allWays() {
            return ways[0];
        }

        int firstGiven(int k) {
            int given = 0;
            int owner = NONE;
            for (int next = 0; next <= k; next++) {
                owner = firstOwner(next, given);
                if (owner == NONE) {
                    return NONE;
                }
                given |= 1 << owner;
            }
            return owner;
        }

        private int firstOwner(int next, int given) {
            for (int k = 0; k < world.lore.soldiers; k++) {
                if (has(pick(owners, next) & ~given, k) && pick(ways, given | 1 << k) > 0) {
                    return k;
                }
            }
            return NONE;
        }
    }
}
