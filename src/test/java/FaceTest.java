import java.lang.reflect.Field;
import java.lang.reflect.Method;
import java.lang.reflect.Modifier;
import java.util.TreeSet;

/** The face: just the document's constants, constructor and methods; promise 1. */
final class FaceTest {
    private static final String[] FACE = {
        "int feed(int,int,int,int,int)", "boolean end(int)", "int war() IllegalArgumentException UnsupportedOperationException",
        "int law() IllegalArgumentException", "int fault()",
        "int memory(int,int) IndexOutOfBoundsException NoSuchElementException",
        "int soldier(int,int) IndexOutOfBoundsException NoSuchElementException",
        "int known(int,int) IndexOutOfBoundsException",
        "int place(int,int) IndexOutOfBoundsException IllegalArgumentException",
        "int falls(int,int) IndexOutOfBoundsException",
        "int order(int,int) IndexOutOfBoundsException NoSuchElementException",
        "int rule(int,int) IndexOutOfBoundsException NoSuchElementException",
        "int hours(int) IllegalArgumentException",
        "int shoot(int,int,boolean) IndexOutOfBoundsException IllegalArgumentException IllegalStateException",
        "int teach(int,int,int) IndexOutOfBoundsException IllegalArgumentException IllegalStateException",
        "int gather(int,int) IndexOutOfBoundsException IllegalStateException",
        "int read(int) IndexOutOfBoundsException IllegalStateException",
        "int field(int,int) IndexOutOfBoundsException NoSuchElementException",
        "int plan(int,boolean) IndexOutOfBoundsException",
        "int shots(int,int,boolean) IndexOutOfBoundsException",
        "int outlasts(int,boolean,boolean) IndexOutOfBoundsException",
        "int reserves(int,int) IndexOutOfBoundsException IllegalArgumentException",
        "int company(int) IllegalArgumentException", "int drill(boolean)",
        "int duel(int,int) IndexOutOfBoundsException IllegalArgumentException",
        "int best(int,int) IndexOutOfBoundsException IllegalArgumentException",
        "int spread(int,int,int) IndexOutOfBoundsException IllegalArgumentException",
        "int soonest(int,int) IndexOutOfBoundsException IllegalArgumentException",
        "int mute(int,int) IndexOutOfBoundsException", "int amends(int) IndexOutOfBoundsException",
        "int agreed()", "int treaty(int,boolean)",
        "int matches(int,int) IndexOutOfBoundsException IllegalArgumentException",
        "int trial(int,int) IllegalArgumentException NoSuchElementException",
        "int span(int,int,boolean) IndexOutOfBoundsException IllegalArgumentException",
        "int meets(int,int) IndexOutOfBoundsException IllegalArgumentException",
        "int log(int,int) NoSuchElementException", "int led(int,int) IndexOutOfBoundsException",
        "int hitter()", "int seed(int)", "boolean undo()", "void image()", "boolean back()", "int count(int)"};

    public static void main(String[] args) {
        TreeSet<String> due = new TreeSet<>();
        for (String one : FACE) {
            due.add(one);
        }
        TreeSet<String> got = new TreeSet<>();
        TreeSet<String> names = new TreeSet<>();
        for (Method m : ForgetWar.class.getDeclaredMethods()) {
            if (!Modifier.isPrivate(m.getModifiers())) {
                got.add(told(m));
                names.add(m.getName());
            }
        }
        Check.yes("face " + got, got.equals(due));
        for (Method m : ForgetWar.class.getDeclaredMethods()) {
            Check.no("private " + m.getName(), Modifier.isPrivate(m.getModifiers()) && names.contains(m.getName()));
        }
        for (Class<?> inside : ForgetWar.class.getDeclaredClasses()) {
            Check.yes(inside.getName(), Modifier.isStatic(inside.getModifiers()) && !Modifier.isPublic(inside.getModifiers()));
            for (Method m : inside.getDeclaredMethods()) {
                Check.no(inside.getName() + " " + m.getName(), names.contains(m.getName()));
            }
        }
        for (Field f : ForgetWar.class.getDeclaredFields()) {
            Check.yes(f.getName(), Modifier.isPrivate(f.getModifiers()) || f.getName().equals("NONE"));
        }
        Check.same("NONE", ForgetWar.NONE, -1);
        Check.yes("final", Modifier.isFinal(ForgetWar.class.getModifiers()));
        Check.same("constructors", ForgetWar.class.getConstructors().length, 1);
        Check.same("declared constructors", ForgetWar.class.getDeclaredConstructors().length, 1);
        Check.yes("at most some twelve classes", ForgetWar.class.getDeclaredClasses().length <= 12);
        newObject();
        Check.close("FaceTest");
    }

    private static String told(Method m) {
        StringBuilder b = new StringBuilder(m.getReturnType().getName() + " " + m.getName() + "(");
        for (int k = 0; k < m.getParameterCount(); k++) {
            b.append(k > 0 ? "," : "").append(m.getParameterTypes()[k].getName());
        }
        b.append(")");
        for (Class<?> e : m.getExceptionTypes()) {
            b.append(" ").append(e.getSimpleName());
        }
        return b.toString();
    }

    private static void newObject() {
        ForgetWar x = new ForgetWar();
        for (int what = -1; what < 14; what++) {
            Check.same("count " + what, x.count(what), what == 4 || what < 0 || what > 12 ? -1 : 0);
        }
        Check.same("fault", x.fault(), -1);
        Check.same("seed", x.seed(5), 1);
        Check.no("undo", x.undo());
        Check.no("back", x.back());
        Check.same("agreed", x.agreed(), 0);
        Check.same("drill", x.drill(false), -1);
        Check.same("drill", x.drill(true), -1);
        Check.same("hitter", x.hitter(), -1);
        Check.same("company", x.company(12), 0);
        Check.same("hours", x.hours(1), 0);
        Check.same("hour", x.count(5), 1);
        Check.same("trial", x.trial(60, 0), 0);
        Check.same("trial", x.trial(60, 3), -1);
        Check.same("span", x.span(0, 24, true), 0);
        Check.same("plan", x.plan(1, true), 0);
        Check.same("outlasts", x.outlasts(0, true, false), -1);
        Check.same("outlasts", x.outlasts(1, false, true), -1);
        Check.same("reserves", x.reserves(0, 10), 0);
        Check.same("treaty", x.treaty(-1, false), 1);
        Check.same("treaty", x.treaty(-1, true), -1);
        Check.same("seed untouched by empty hours", x.seed(1), 5);
    }
}
