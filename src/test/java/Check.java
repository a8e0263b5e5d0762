/** What the tests share: counting wrong answers, and telling texts to an object. */
final class Check {
    interface Call {
        void run();
    }

    private static int calls = 0;
    private static int wrong = 0;

    private Check() {
    }

    static void same(String what, long got, long due) {
        calls++;
        if (got != due) {
            wrong++;
            System.out.println(what + " answered " + got + ", due is " + due);
        }
    }

    /** Of unlike texts the first unlike line is printed. */
    static void alike(String what, String got, String due) {
        calls++;
        if (!got.equals(due)) {
            wrong++;
            String[] gotLines = got.split("\n");
            String[] dueLines = due.split("\n");
            int k = 0;
            while (k < gotLines.length - 1 && k < dueLines.length - 1 && gotLines[k].equals(dueLines[k])) {
                k++;
            }
            System.out.println(what + " looks " + gotLines[k] + ", due is " + dueLines[k]);
        }
    }

    static void yes(String what, boolean got) {
        same(what, got ? 1 : 0, 1);
    }

    static void no(String what, boolean got) {
        same(what, got ? 1 : 0, 0);
    }

    static void throwsA(Class<? extends RuntimeException> due, String what, Call call) {
        calls++;
        String got = "nothing";
        try {
            call.run();
        } catch (RuntimeException e) {
            got = e.getClass().getName();
        }
        if (!got.equals(due.getName())) {
            wrong++;
            System.out.println(what + " threw " + got + ", due is " + due.getName());
        }
    }

    static void outOfBounds(String what, Call call) {
        throwsA(IndexOutOfBoundsException.class, what, call);
    }

    static void noNumber(String what, Call call) {
        throwsA(IllegalArgumentException.class, what, call);
    }

    static void cannotBe(String what, Call call) {
        throwsA(IllegalStateException.class, what, call);
    }

    static void noElement(String what, Call call) {
        throwsA(java.util.NoSuchElementException.class, what, call);
    }

    /** Puts the text's bytes alone on the tape. */
    static void tell(ForgetWar x, String text) {
        x.end(0);
        int[] five = new int[5];
        for (int from = 0; from < text.length(); from += 20) {
            for (int k = 0; k < 5; k++) {
                five[k] = 0;
                for (int b = 0; b < 4; b++) {
                    int at = from + 4 * k + b;
                    five[k] = five[k] << 8 | (at < text.length() ? text.charAt(at) & 255 : 0);
                }
            }
            x.feed(five[0], five[1], five[2], five[3], five[4]);
        }
        x.end(text.length());
    }

    static int war(ForgetWar x, String text) {
        tell(x, text);
        return x.war();
    }

    static int law(ForgetWar x, String text) {
        tell(x, text);
        return x.law();
    }

    /** A new object to which the text of THE WAR was told. */
    static ForgetWar told(String text) {
        ForgetWar x = new ForgetWar();
        war(x, text);
        return x;
    }

    /** The line so often, one behind another. */
    static String times(String line, int n) {
        StringBuilder b = new StringBuilder(line);
        for (int k = 1; k < n; k++) {
            b.append(";").append(line);
        }
        return b.toString();
    }

    /** In the text a ^ (which goes out) stands ahead of the first wrong byte. */
    static void badWar(ForgetWar x, String marked) {
        wrongWar(x, unmarked(marked), marked.indexOf('^'));
    }

    static void badWar(String marked) {
        badWar(new ForgetWar(), marked);
    }

    static void badLaw(String marked) {
        wrongLaw(unmarked(marked), marked.indexOf('^'));
    }

    private static String unmarked(String marked) {
        int at = marked.indexOf('^');
        return marked.substring(0, at) + marked.substring(at + 1);
    }

    static void wrongWar(String text, int fault) {
        wrongWar(new ForgetWar(), text, fault);
    }

    static void wrongWar(ForgetWar x, String text, int fault) {
        noNumber("war " + text, () -> war(x, text));
        same("fault of " + text, x.fault(), fault);
    }

    static void wrongLaw(String text, int fault) {
        ForgetWar x = new ForgetWar();
        noNumber("law " + text, () -> law(x, text));
        same("fault of " + text, x.fault(), fault);
        same("lines behind " + text, x.count(4), ForgetWar.NONE);
    }

    static void close(String name) {
        System.out.println(name + ": " + calls + " answers, " + wrong + " wrong");
        System.exit(wrong == 0 ? 0 : 1);
    }
}
