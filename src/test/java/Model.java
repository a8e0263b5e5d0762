import java.util.ArrayList;
import java.util.Arrays;
import java.util.List;
import java.util.NoSuchElementException;
import java.util.TreeSet;

/**
 * The document once more, by the dearest ways: all is worked out anew from lists and sets, and searches
 * try everything. FuzzTest holds the program against it.
 */
final class Model {
    static final int NONE = -1;

    static final class Memory {
        int worth;
        TreeSet<Integer> needs = new TreeSet<>();
        TreeSet<Integer> clashes = new TreeSet<>();
    }

    static final class Soldier {
        int side;
        List<Integer> route = new ArrayList<>();
        List<Integer> knows = new ArrayList<>();
        TreeSet<Integer> book = new TreeSet<>();
        int at;
    }

    static final class Order {
        int whose;
        TreeSet<Integer> set = new TreeSet<>();
    }

    static final class State {
        List<Memory> memories = new ArrayList<>();
        List<Soldier> soldiers = new ArrayList<>();
        List<Order> orders = new ArrayList<>();
        List<TreeSet<Integer>> plans = new ArrayList<>(List.of(new TreeSet<Integer>(), new TreeSet<Integer>()));
        List<int[]> field = new ArrayList<>();
        List<int[]> log = new ArrayList<>();
        int hour;
        int seed = 1;
        int lost;
        int learnt;
        int texts;
        String law;

        State copy() {
            State s = new State();
            for (Memory m : memories) {
                Memory c = new Memory();
                c.worth = m.worth;
                c.needs.addAll(m.needs);
                c.clashes.addAll(m.clashes);
                s.memories.add(c);
            }
            for (Soldier d : soldiers) {
                Soldier c = new Soldier();
                c.side = d.side;
                c.route.addAll(d.route);
                c.knows.addAll(d.knows);
                c.book.addAll(d.book);
                c.at = d.at;
                s.soldiers.add(c);
            }
            for (Order o : orders) {
                Order c = new Order();
                c.whose = o.whose;
                c.set.addAll(o.set);
                s.orders.add(c);
            }
            for (int k = 0; k < 2; k++) {
                s.plans.get(k).addAll(plans.get(k));
            }
            s.field.addAll(field);
            s.log.addAll(log);
            s.hour = hour;
            s.seed = seed;
            s.lost = lost;
            s.learnt = learnt;
            s.texts = texts;
            s.law = law;
            return s;
        }

        int place(Soldier d, int hours) {
            return d.route.get(Math.floorMod(d.at + hours, d.route.size()));
        }

        TreeSet<Integer> usable(List<Integer> known) {
            TreeSet<Integer> found = new TreeSet<>();
            boolean more = true;
            while (more) {
                more = false;
                for (int m : known) {
                    if (!found.contains(m) && found.containsAll(memories.get(m).needs)) {
                        found.add(m);
                        more = true;
                    }
                }
            }
            return found;
        }

        TreeSet<Integer> usable(int d) {
            return usable(soldiers.get(d).knows);
        }

        boolean canLearn(int d, int m) {
            List<Integer> knows = soldiers.get(d).knows;
            return !knows.contains(m) && usable(d).containsAll(memories.get(m).needs) && knows.size() < 12;
        }

        boolean learn(int d, int m) {
            if (!canLearn(d, m)) {
                return false;
            }
            soldiers.get(d).knows.add(m);
            learnt++;
            return true;
        }

        int fall(int d, int m) {
            List<Integer> knows = soldiers.get(d).knows;
            if (!knows.contains(m)) {
                return 0;
            }
            List<Integer> left = new ArrayList<>(knows);
            left.remove((Integer) m);
            return usable(knows).size() - usable(left).size();
        }

        int draw() {
            seed = 1103515245 * seed + 12345;
            return (seed >>> 16) % 32768;
        }

        int shot(int by, int whom, boolean good) {
            Soldier d = soldiers.get(whom);
            int hit = d.knows.get(d.knows.size() - 1);
            if (good) {
                hit = new TreeSet<>(d.knows).first();
                for (int m : new TreeSet<>(d.knows)) {
                    if (fall(whom, m) > fall(whom, hit)) {
                        hit = m;
                    }
                }
            }
            d.knows.remove((Integer) hit);
            field.add(new int[] {hit, place(d, 0), whom});
            if (field.size() > 40) {
                field.remove(0);
            }
            log.add(new int[] {hour, by, whom, hit, good ? 1 : 0});
            if (log.size() > 60) {
                log.remove(0);
            }
            lost++;
            return hit;
        }

        int target(int d) {
            if (usable(d).isEmpty()) {
                return NONE;
            }
            int best = NONE;
            for (int k = 0; k < soldiers.size(); k++) {
                Soldier o = soldiers.get(k);
                boolean can = o.side != soldiers.get(d).side && place(o, 0) == place(soldiers.get(d), 0) && o.knows.size() > 0;
                if (can && (best == NONE || o.knows.size() > soldiers.get(best).knows.size())) {
                    best = k;
                }
            }
            return best;
        }

        int read(int d) {
            int times = 0;
            for (int k = 0; k < soldiers.size(); k++) {
                Soldier o = soldiers.get(k);
                if (o.side == soldiers.get(d).side && place(o, 0) == place(soldiers.get(d), 0)) {
                    for (int m : soldiers.get(d).book) {
                        if (learn(k, m)) {
                            times++;
                        }
                    }
                }
            }
            return times;
        }

        void hour() {
            for (Soldier d : soldiers) {
                d.at = (d.at + 1) % d.route.size();
            }
            for (int k = 0; k < soldiers.size(); k++) {
                int whom = target(k);
                if (whom != NONE && draw() % 100 < rule(k, "aim")) {
                    shot(k, whom, draw() % 100 < rule(k, "good"));
                }
            }
            for (int k = 0; k < soldiers.size(); k++) {
                if (!soldiers.get(k).book.isEmpty() && rule(k, "read") > 0) {
                    read(k);
                }
            }
            hour++;
        }

        int rule(int d, String kind) {
            if (law == null) {
                return kind.equals("aim") ? 50 : kind.equals("good") ? 20 : 1;
            }
            return new LawReader(law, this, d, kind).run();
        }

        boolean obeyed(Order o) {
            return usable(o.whose).containsAll(o.set);
        }

        int obeyed() {
            int bits = 0;
            for (int k = 0; k < orders.size(); k++) {
                bits |= obeyed(orders.get(k)) ? 1 << k : 0;
            }
            return bits;
        }

        TreeSet<Integer> bears(int m) {
            TreeSet<Integer> all = new TreeSet<>();
            for (int n : memories.get(m).needs) {
                all.add(n);
                all.addAll(bears(n));
            }
            return all;
        }

        int usableCount(int side) {
            int sum = 0;
            for (int k = 0; k < soldiers.size(); k++) {
                if (side == NONE || soldiers.get(k).side == side) {
                    sum += usable(k).size();
                }
            }
            return sum;
        }
    }

    static final class Fault extends RuntimeException {
        private static final long serialVersionUID = 1L;
        final int at;

        Fault(int at) {
            this.at = at;
        }
    }

    /** Things of a text: each a begin and its letters. */
    static class Reader {
        final String text;
        int at;

        Reader(String text) {
            this.text = text;
        }

        String peek() {
            int k = at;
            while (k < text.length() && text.charAt(k) == ' ') {
                k++;
            }
            at = k;
            if (k == text.length()) {
                return "";
            }
            String set = "abcdefghijklmnopqrstuvwxyz";
            if (set.indexOf(text.charAt(k)) < 0) {
                set = "0123456789";
            }
            int e = k;
            while (e < text.length() && set.indexOf(text.charAt(e)) >= 0) {
                e++;
            }
            return text.substring(k, Math.max(e, k + 1));
        }

        String next() {
            String t = peek();
            at += t.length();
            return t;
        }

        Fault wrong() {
            peek();
            return new Fault(at);
        }

        boolean isNumber() {
            String t = peek();
            return !t.isEmpty() && Character.isDigit(t.charAt(0));
        }

        int number(int low, int high) {
            String t = peek();
            if (!isNumber() || t.length() > 3 || Integer.parseInt(t) < low || Integer.parseInt(t) > high) {
                throw wrong();
            }
            next();
            return Integer.parseInt(t);
        }

        boolean take(String t) {
            if (!peek().equals(t)) {
                return false;
            }
            next();
            return true;
        }

        void must(String t) {
            if (!take(t)) {
                throw wrong();
            }
        }
    }

    static final class WarReader extends Reader {
        final State s;

        WarReader(String text, State s) {
            super(text);
            this.s = s;
        }

        void run() {
            if (peek().isEmpty()) {
                return;
            }
            int lines = 0;
            do {
                if (lines == 14) {
                    throw wrong();
                }
                line();
                lines++;
            } while (take(";"));
            if (!peek().isEmpty()) {
                throw wrong();
            }
        }

        void line() {
            String word = peek();
            if (word.equals("memory") && s.memories.size() == 16) {
                throw wrong();
            }
            if (word.equals("soldier") && s.soldiers.size() == 10) {
                throw wrong();
            }
            if (word.equals("order") && s.orders.size() == 10) {
                throw wrong();
            }
            if (!List.of("memory", "soldier", "knows", "book", "order", "plan", "clash").contains(word)) {
                throw wrong();
            }
            next();
            switch (word) {
                case "memory" -> {
                    Memory m = new Memory();
                    m.worth = number(1, 99);
                    if (take("needs")) {
                        m.needs = set();
                    }
                    s.memories.add(m);
                }
                case "soldier" -> {
                    Soldier d = new Soldier();
                    d.side = number(0, 1);
                    do {
                        if (d.route.size() == 6) {
                            throw wrong();
                        }
                        d.route.add(number(0, 7));
                    } while (isNumber());
                    s.soldiers.add(d);
                }
                case "knows" -> {
                    Soldier d = s.soldiers.get(soldier());
                    do {
                        int from = at;
                        peek();
                        int begin = at;
                        int m = memory();
                        if (d.knows.contains(m) || d.knows.size() == 12) {
                            at = from;
                            throw new Fault(begin);
                        }
                        d.knows.add(m);
                    } while (isNumber());
                }
                case "book" -> s.soldiers.get(soldier()).book.addAll(set());
                case "order" -> {
                    Order o = new Order();
                    o.whose = soldier();
                    o.set = set();
                    s.orders.add(o);
                }
                case "plan" -> s.plans.get(number(0, 1)).addAll(set());
                default -> {
                    int one = memory();
                    peek();
                    int begin = at;
                    int other = memory();
                    if (one == other) {
                        throw new Fault(begin);
                    }
                    s.memories.get(one).clashes.add(other);
                    s.memories.get(other).clashes.add(one);
                }
            }
        }

        int memory() {
            return number(0, s.memories.size() - 1);
        }

        int soldier() {
            return number(0, s.soldiers.size() - 1);
        }

        TreeSet<Integer> set() {
            TreeSet<Integer> found = new TreeSet<>();
            do {
                found.add(memory());
            } while (isNumber());
            return found;
        }
    }

    /** Reads THE LAW and works it out at once, for one soldier and one kind of line. */
    static final class LawReader extends Reader {
        final State s;
        final int d;
        final String kind;
        int lines;

        LawReader(String text, State s, int d, String kind) {
            super(text);
            this.s = s;
            this.d = d;
            this.kind = kind;
        }

        int run() {
            int sum = 0;
            if (peek().isEmpty()) {
                return 0;
            }
            do {
                String word = peek();
                if (lines == 12 || !List.of("aim", "good", "read").contains(word)) {
                    throw wrong();
                }
                next();
                int n = word.equals("read") ? 1 : number(0, 999);
                boolean holds = !take("if") || condition(0);
                if (holds && word.equals(kind)) {
                    sum += n;
                }
                lines++;
            } while (take(";"));
            if (!peek().isEmpty()) {
                throw wrong();
            }
            return Math.min(100, sum);
        }

        boolean condition(int depth) {
            boolean found = all(depth);
            while (take("or")) {
                found |= all(depth);
            }
            return found;
        }

        boolean all(int depth) {
            boolean found = atom(depth);
            while (take("and")) {
                found &= atom(depth);
            }
            return found;
        }

        boolean atom(int depth) {
            String t = peek();
            if ((t.equals("not") || t.equals("(")) && depth == 6) {
                throw wrong();
            }
            if (take("not")) {
                return !atom(depth + 1);
            }
            if (take("(")) {
                boolean found = condition(depth + 1);
                must(")");
                return found;
            }
            if (take("alone")) {
                return s == null || count(true) == 1;
            }
            int left = sum();
            if (take("<")) {
                return left < sum();
            }
            must(">");
            return left > sum();
        }

        int count(boolean own) {
            int found = 0;
            Soldier me = s.soldiers.get(d);
            for (Soldier o : s.soldiers) {
                if (s.place(o, 0) == s.place(me, 0) && (o.side == me.side) == own) {
                    found++;
                }
            }
            return found;
        }

        int sum() {
            int found = part();
            while (take("+")) {
                found += part();
            }
            return found;
        }

        int part() {
            if (isNumber()) {
                return number(0, 999);
            }
            if (!List.of("soldier", "side", "place", "hour", "known", "usable", "foes").contains(peek())) {
                throw wrong();
            }
            String word = next();
            if (s == null) {
                return 0;
            }
            Soldier me = s.soldiers.get(d);
            return switch (word) {
                case "soldier" -> d;
                case "side" -> me.side;
                case "place" -> s.place(me, 0);
                case "hour" -> s.hour;
                case "known" -> me.knows.size();
                case "usable" -> s.usable(d).size();
                default -> count(false);
            };
        }
    }

    State s = new State();
    State image;
    List<State> past = new ArrayList<>();
    List<Integer> tape = new ArrayList<>();
    int fault = NONE;

    static int bits(Iterable<Integer> set) {
        int found = 0;
        for (int m : set) {
            found |= 1 << m;
        }
        return found;
    }

    private String text() {
        StringBuilder b = new StringBuilder();
        for (int t : tape) {
            b.append((char) t);
        }
        tape.clear();
        return b.toString();
    }

    private void memoryIs(int m) {
        if (m < 0 || m >= s.memories.size()) {
            throw new IndexOutOfBoundsException();
        }
    }

    private void soldierIs(int d) {
        if (d < 0 || d >= s.soldiers.size()) {
            throw new IndexOutOfBoundsException();
        }
    }

    private void sideIs(int side) {
        if (side != 0 && side != 1) {
            throw new IndexOutOfBoundsException();
        }
    }

    private static void range(int n, int low, int high) {
        if (n < low || n > high) {
            throw new IllegalArgumentException();
        }
    }

    private static void what(int what, int most) {
        if (what < 0 || what > most) {
            throw new NoSuchElementException();
        }
    }

    private static void can(boolean can) {
        if (!can) {
            throw new IllegalStateException();
        }
    }

    private boolean near(int one, int other) {
        return s.place(s.soldiers.get(one), 0) == s.place(s.soldiers.get(other), 0);
    }

    private boolean sameSide(int one, int other) {
        return s.soldiers.get(one).side == s.soldiers.get(other).side;
    }

    private void remember() {
        past.add(s.copy());
        if (past.size() > 12) {
            past.remove(0);
        }
    }

    int feed(int... numbers) {
        if (tape.size() + 20 > 400) {
            return NONE;
        }
        for (int n : numbers) {
            tape.addAll(Arrays.asList(n >>> 24, n >>> 16 & 255, n >>> 8 & 255, n & 255));
        }
        return tape.size();
    }

    int end(int n) {
        if (n < 0 || n > tape.size()) {
            return 0;
        }
        tape = new ArrayList<>(tape.subList(0, n));
        return 1;
    }

    int war() {
        State next = s.copy();
        fault = NONE;
        try {
            new WarReader(text(), next).run();
        } catch (Fault f) {
            fault = f.at;
            throw new IllegalArgumentException();
        }
        if (s.texts == 12) {
            throw new UnsupportedOperationException();
        }
        next.texts++;
        s = next;
        past.clear();
        return s.texts;
    }

    int law() {
        String text = text();
        fault = NONE;
        LawReader reader = new LawReader(text, null, 0, "");
        try {
            reader.run();
        } catch (Fault f) {
            fault = f.at;
            throw new IllegalArgumentException();
        }
        s.law = text;
        past.clear();
        return reader.lines;
    }

    int memory(int m, int what) {
        memoryIs(m);
        what(what, 7);
        TreeSet<Integer> found = new TreeSet<>();
        switch (what) {
            case 0:
                return s.memories.get(m).worth;
            case 1:
                return bits(s.memories.get(m).needs);
            case 2:
                for (int k = 0; k < s.memories.size(); k++) {
                    if (s.bears(k).contains(m)) {
                        found.add(k);
                    }
                }
                return bits(found);
            case 3:
                return bits(s.bears(m));
            case 4:
                for (int k = 0; k < s.soldiers.size(); k++) {
                    if (s.soldiers.get(k).knows.contains(m)) {
                        found.add(k);
                    }
                }
                return bits(found);
            case 5:
                for (int k = 0; k < s.soldiers.size(); k++) {
                    if (s.usable(k).contains(m)) {
                        found.add(k);
                    }
                }
                return bits(found);
            case 6:
                int times = 0;
                for (int[] thing : s.field) {
                    times += thing[0] == m ? 1 : 0;
                }
                return times;
            default:
                return bits(s.memories.get(m).clashes);
        }
    }

    int soldier(int d, int what) {
        soldierIs(d);
        what(what, 8);
        Soldier me = s.soldiers.get(d);
        int sum = 0;
        switch (what) {
            case 0:
                return me.side;
            case 1:
                return s.place(me, 0);
            case 2:
                return me.knows.size();
            case 3:
                return bits(me.knows);
            case 4:
                return bits(s.usable(d));
            case 5:
                return bits(me.book);
            case 6:
                return me.route.size();
            case 7:
                for (int m : s.usable(d)) {
                    sum += s.memories.get(m).worth;
                }
                return sum;
            default:
                for (int k = 0; k < s.orders.size(); k++) {
                    if (s.orders.get(k).whose == d && s.obeyed(s.orders.get(k))) {
                        sum += 1 << k;
                    }
                }
                return sum;
        }
    }

    int known(int d, int k) {
        soldierIs(d);
        List<Integer> knows = s.soldiers.get(d).knows;
        return k < 0 || k >= knows.size() ? NONE : knows.get(k);
    }

    int place(int d, int hours) {
        soldierIs(d);
        range(hours, 0, 1000);
        return s.place(s.soldiers.get(d), hours);
    }

    int falls(int d, int m) {
        soldierIs(d);
        memoryIs(m);
        return s.fall(d, m);
    }

    private TreeSet<Integer> inAll(Order o) {
        TreeSet<Integer> all = new TreeSet<>(o.set);
        for (int m : o.set) {
            all.addAll(s.bears(m));
        }
        return all;
    }

    int order(int k, int what) {
        if (k < 0 || k >= s.orders.size()) {
            throw new IndexOutOfBoundsException();
        }
        what(what, 3);
        Order o = s.orders.get(k);
        return new int[] {o.whose, bits(o.set), s.obeyed(o) ? 1 : 0, inAll(o).size()}[what];
    }

    int rule(int d, int what) {
        soldierIs(d);
        what(what, 3);
        return new int[] {s.rule(d, "aim"), s.rule(d, "good"), s.rule(d, "read") > 0 ? 1 : 0, s.target(d)}[what];
    }

    int hours(int n) {
        range(n, 1, 60);
        remember();
        int before = s.lost;
        for (int k = 0; k < n; k++) {
            s.hour();
        }
        return s.lost - before;
    }

    int shoot(int one, int other, boolean good) {
        soldierIs(one);
        soldierIs(other);
        range(one == other ? 1 : 0, 0, 0);
        can(!sameSide(one, other) && near(one, other) && !s.soldiers.get(other).knows.isEmpty());
        remember();
        return s.shot(one, other, good);
    }

    int teach(int d, int by, int m) {
        soldierIs(d);
        soldierIs(by);
        memoryIs(m);
        range(d == by ? 1 : 0, 0, 0);
        can(sameSide(d, by) && near(d, by) && s.usable(by).contains(m) && s.canLearn(d, m));
        remember();
        s.learn(d, m);
        return s.soldiers.get(d).knows.size();
    }

    int gather(int d, int k) {
        soldierIs(d);
        if (k < 0 || k >= s.field.size()) {
            throw new IndexOutOfBoundsException();
        }
        int[] thing = s.field.get(k);
        can(thing[1] == s.place(s.soldiers.get(d), 0) && s.canLearn(d, thing[0]));
        remember();
        s.learn(d, thing[0]);
        s.field.remove(k);
        return thing[0];
    }

    int read(int d) {
        soldierIs(d);
        can(!s.soldiers.get(d).book.isEmpty());
        remember();
        return s.read(d);
    }

    int field(int k, int what) {
        if (k < 0 || k >= s.field.size()) {
            throw new IndexOutOfBoundsException();
        }
        what(what, 2);
        return s.field.get(k)[what];
    }

    private TreeSet<Integer> usableOf(int side) {
        TreeSet<Integer> found = new TreeSet<>();
        for (int k = 0; k < s.soldiers.size(); k++) {
            if (s.soldiers.get(k).side == side) {
                found.addAll(s.usable(k));
            }
        }
        return found;
    }

    int plan(int side, boolean lost) {
        sideIs(side);
        TreeSet<Integer> found = new TreeSet<>(s.plans.get(side));
        if (lost) {
            found.removeAll(usableOf(side));
        }
        return bits(found);
    }

    /** By trying: one hit of any, or the latest again and again. */
    private int till(int d, int m, boolean good) {
        List<Integer> left = new ArrayList<>(s.soldiers.get(d).knows);
        int shots = 0;
        while (s.usable(left).contains(m)) {
            shots++;
            if (good) {
                boolean one = false;
                for (int hit : left) {
                    List<Integer> rest = new ArrayList<>(left);
                    rest.remove((Integer) hit);
                    one |= !s.usable(rest).contains(m);
                }
                return one ? 1 : 99;
            }
            left.remove(left.size() - 1);
        }
        return shots;
    }

    int shots(int d, int m, boolean good) {
        soldierIs(d);
        memoryIs(m);
        return till(d, m, good);
    }

    int outlasts(int side, boolean good, boolean which) {
        sideIs(side);
        int best = NONE;
        int found = NONE;
        for (int m : s.plans.get(side)) {
            int sum = 0;
            for (int k = 0; k < s.soldiers.size(); k++) {
                sum += s.soldiers.get(k).side == side ? till(k, m, good) : 0;
            }
            if (found == NONE || sum < best) {
                best = sum;
                found = m;
            }
        }
        return which || found == NONE ? found : best;
    }

    int reserves(int side, int k) {
        sideIs(side);
        range(k, 1, 10);
        int sum = 0;
        for (int m : s.plans.get(side)) {
            int have = 0;
            int could = 0;
            for (int d = 0; d < s.soldiers.size(); d++) {
                if (s.soldiers.get(d).side == side) {
                    have += s.usable(d).contains(m) ? 1 : 0;
                    could += s.canLearn(d, m) ? 1 : 0;
                }
            }
            int lack = Math.max(0, k - have);
            if (lack > could) {
                return NONE;
            }
            sum += lack;
        }
        return sum;
    }

    int company(int n) {
        range(n, 0, 12);
        int found = 0;
        for (int k = 0; k < s.orders.size(); k++) {
            List<Integer> knows = s.soldiers.get(s.orders.get(k).whose).knows;
            if (s.usable(knows.subList(0, Math.min(n, knows.size()))).containsAll(s.orders.get(k).set)) {
                found |= 1 << k;
            }
        }
        return found;
    }

    int drill(boolean many) {
        int best = NONE;
        for (int k = 0; k < s.orders.size(); k++) {
            if (best == NONE || inAll(s.orders.get(k)).size() < inAll(s.orders.get(best)).size()) {
                best = k;
            }
        }
        return best == NONE || !many ? best : inAll(s.orders.get(best)).size();
    }

    private java.util.Map<List<List<Integer>>, Boolean> seen = new java.util.HashMap<>();

    /** Whether the one at turn wins, by trying every hit. */
    private boolean wins(List<Integer> own, List<Integer> others) {
        List<List<Integer>> key = List.of(List.copyOf(own), List.copyOf(others));
        Boolean before = seen.get(key);
        if (before != null) {
            return before;
        }
        boolean win;
        if (s.usable(own).isEmpty()) {
            win = false;
        } else if (others.isEmpty()) {
            win = true;
        } else {
            win = false;
            for (int hit : others) {
                List<Integer> rest = new ArrayList<>(others);
                rest.remove((Integer) hit);
                win |= !wins(rest, own);
            }
        }
        seen.put(key, win);
        return win;
    }

    int duel(int one, int other) {
        soldierIs(one);
        soldierIs(other);
        range(one == other ? 1 : 0, 0, 0);
        List<Integer> own = s.soldiers.get(one).knows;
        List<Integer> others = s.soldiers.get(other).knows;
        if (own.size() > 7 || others.size() > 7) {
            return -3;
        }
        seen.clear();
        return wins(own, others) ? one : other;
    }

    int best(int one, int other) {
        int winner = duel(one, other);
        if (winner == -3) {
            return -3;
        }
        List<Integer> own = s.soldiers.get(one).knows;
        if (winner == other || s.usable(own).isEmpty()) {
            return NONE;
        }
        for (int hit : new TreeSet<>(s.soldiers.get(other).knows)) {
            List<Integer> rest = new ArrayList<>(s.soldiers.get(other).knows);
            rest.remove((Integer) hit);
            if (!wins(rest, own)) {
                return hit;
            }
        }
        return NONE;
    }

    private TreeSet<Integer> talk(TreeSet<Integer> first, int side, TreeSet<Integer> silent, int n) {
        TreeSet<Integer> heard = new TreeSet<>(first);
        for (int h = 0; h <= n; h++) {
            boolean more = true;
            while (more) {
                more = false;
                for (int k = 0; k < s.soldiers.size(); k++) {
                    for (int o : List.copyOf(heard)) {
                        Soldier one = s.soldiers.get(k);
                        boolean hears = one.side == side && !silent.contains(o)
                            && s.place(one, h) == s.place(s.soldiers.get(o), h);
                        more |= hears && heard.add(k);
                    }
                }
            }
        }
        return heard;
    }

    private TreeSet<Integer> team(int side, int memory) {
        TreeSet<Integer> found = new TreeSet<>();
        for (int k = 0; k < s.soldiers.size(); k++) {
            if (s.soldiers.get(k).side == side && (memory == NONE || s.usable(k).contains(memory))) {
                found.add(k);
            }
        }
        return found;
    }

    int spread(int m, int side, int n) {
        memoryIs(m);
        sideIs(side);
        range(n, 0, 60);
        return bits(talk(team(side, m), side, new TreeSet<>(), n));
    }

    int soonest(int from, int to) {
        soldierIs(from);
        soldierIs(to);
        range(sameSide(from, to) ? 0 : 1, 0, 0);
        for (int n = 0; n <= 60; n++) {
            if (talk(new TreeSet<>(List.of(from)), s.soldiers.get(from).side, new TreeSet<>(), n).contains(to)) {
                return n;
            }
        }
        return NONE;
    }

    private static TreeSet<Integer> setOf(int bits) {
        TreeSet<Integer> found = new TreeSet<>();
        for (int k = 0; k < 31; k++) {
            if ((bits >> k & 1) == 1) {
                found.add(k);
            }
        }
        return found;
    }

    int mute(int m, int side) {
        memoryIs(m);
        sideIs(side);
        TreeSet<Integer> team = team(side, NONE);
        for (int size = 0; size <= team.size(); size++) {
            for (int silent = 0; silent < 1 << s.soldiers.size(); silent++) {
                if (setOf(silent).size() == size && team.containsAll(setOf(silent))
                    && !talk(team(side, m), side, setOf(silent), 12).containsAll(team)) {
                    return silent;
                }
            }
        }
        return -2;
    }

    int amends(int d) {
        soldierIs(d);
        List<Integer> knows = s.soldiers.get(d).knows;
        for (int size = 0; size <= knows.size(); size++) {
            for (int gone = 0; gone < 1 << s.memories.size(); gone++) {
                if (Integer.bitCount(gone) != size || !knows.containsAll(setOf(gone))) {
                    continue;
                }
                List<Integer> left = new ArrayList<>(knows);
                left.removeAll(setOf(gone));
                boolean peace = true;
                for (int m : s.usable(left)) {
                    for (int o : s.usable(left)) {
                        peace &= !s.memories.get(m).clashes.contains(o);
                    }
                }
                if (peace) {
                    return gone;
                }
            }
        }
        throw new IllegalStateException("no amends");
    }

    int agreed() {
        TreeSet<Integer> found = usableOf(0);
        found.retainAll(usableOf(1));
        return bits(found);
    }

    int treaty(int memories, boolean undone) {
        TreeSet<Integer> set = new TreeSet<>();
        for (int m = 0; m < s.memories.size(); m++) {
            if ((memories >> m & 1) == 1) {
                set.add(m);
            }
        }
        boolean binds = setOf(agreed()).containsAll(set);
        if (!undone) {
            return binds ? 1 : 0;
        }
        if (set.isEmpty()) {
            return NONE;
        }
        if (!binds) {
            return 0;
        }
        int fewest = 99;
        for (int m : set) {
            fewest = Math.min(fewest, Math.min(team(0, m).size(), team(1, m).size()));
        }
        return fewest;
    }

    private boolean was(int d, int place) {
        for (int h = 0; h <= s.hour; h++) {
            if (s.place(s.soldiers.get(d), h - s.hour) == place) {
                return true;
            }
        }
        return false;
    }

    private void give(List<Integer> told, int place, List<Integer> given, List<List<Integer>> ways) {
        if (given.size() == told.size()) {
            ways.add(List.copyOf(given));
            return;
        }
        for (int d = 0; d < s.soldiers.size(); d++) {
            if (!given.contains(d) && !s.soldiers.get(d).knows.contains(told.get(given.size())) && was(d, place)) {
                given.add(d);
                give(told, place, given, ways);
                given.remove(given.size() - 1);
            }
        }
    }

    int matches(int place, int k) {
        List<Integer> told = new ArrayList<>(tape);
        tape.clear();
        if (place < 0 || place > 7) {
            throw new IndexOutOfBoundsException();
        }
        range(told.size(), 0, 8);
        for (int m : told) {
            range(m, 0, s.memories.size() - 1);
        }
        range(k, -1, told.size() - 1);
        List<List<Integer>> ways = new ArrayList<>();
        give(told, place, new ArrayList<>(), ways);
        return k == NONE ? ways.size() : ways.isEmpty() ? NONE : ways.get(0).get(k);
    }

    int trial(int n, int what) {
        range(n, 0, 60);
        what(what, 3);
        State t = s.copy();
        int broken = NONE;
        for (int h = 1; h <= n; h++) {
            t.hour();
            if (broken == NONE && (s.obeyed() & ~t.obeyed()) != 0) {
                broken = h;
            }
        }
        int known = 0;
        for (Soldier d : t.soldiers) {
            known += d.knows.size();
        }
        return new int[] {known, t.usableCount(NONE), t.obeyed(), broken}[what];
    }

    int span(int side, int n, boolean most) {
        sideIs(side);
        range(n, 0, 24);
        TreeSet<Integer> found = new TreeSet<>();
        for (int from = 1; from <= 6; from++) {
            State t = s.copy();
            t.seed = from;
            for (int h = 0; h < n; h++) {
                t.hour();
            }
            found.add(t.usableCount(side));
        }
        return most ? found.last() : found.first();
    }

    int meets(int one, int other) {
        soldierIs(one);
        soldierIs(other);
        range(one == other ? 1 : 0, 0, 0);
        for (int h = 0; h <= 144; h++) {
            if (s.place(s.soldiers.get(one), h) == s.place(s.soldiers.get(other), h)) {
                return s.hour + h;
            }
        }
        return NONE;
    }

    int log(int ago, int what) {
        what(what, 4);
        return ago < 0 || ago >= s.log.size() ? NONE : s.log.get(s.log.size() - 1 - ago)[what];
    }

    int led(int d, int m) {
        soldierIs(d);
        memoryIs(m);
        for (int ago = 0; ago < s.log.size(); ago++) {
            if (log(ago, 2) == d && log(ago, 3) == m) {
                return ago;
            }
        }
        return NONE;
    }

    int hitter() {
        int[] hits = new int[s.soldiers.size()];
        int best = NONE;
        for (int[] row : s.log) {
            hits[row[1]]++;
        }
        for (int d = 0; d < hits.length; d++) {
            if (hits[d] > 0 && (best == NONE || hits[d] > hits[best])) {
                best = d;
            }
        }
        return best;
    }

    int seed(int n) {
        int before = s.seed;
        s.seed = n;
        return before;
    }

    int undo() {
        if (past.isEmpty()) {
            return 0;
        }
        s = past.remove(past.size() - 1);
        return 1;
    }

    void image() {
        image = s.copy();
    }

    int back() {
        if (image == null) {
            return 0;
        }
        s = image.copy();
        past.clear();
        return 1;
    }

    int count(int what) {
        int known = 0;
        for (Soldier d : s.soldiers) {
            known += d.knows.size();
        }
        int lines = NONE;
        if (s.law != null) {
            LawReader reader = new LawReader(s.law, null, 0, "");
            reader.run();
            lines = reader.lines;
        }
        int[] all = {s.memories.size(), s.soldiers.size(), s.orders.size(), s.texts, lines, s.hour, s.field.size(), known,
            s.usableCount(NONE), s.lost, s.learnt, s.log.size(), past.size()};
        return what < 0 || what >= all.length ? NONE : all[what];
    }
}
