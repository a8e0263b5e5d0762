import java.io.IOException;
import java.nio.file.Files;
import java.nio.file.Path;
import java.util.regex.Matcher;
import java.util.regex.Pattern;

/** The program lines of README.md stand here, too, and answer what is written behind them there. */
final class ReadmeTest {
    private static final Pattern ANSWERED = Pattern.compile("(x\\..*\\)); +// (\\w+): .*");

    private interface Call {
        Object answer();
    }

    public static void main(String[] args) throws IOException {
        example();
        String here = Files.readString(Path.of("src/test/java/ReadmeTest.java"));
        boolean inside = false;
        for (String line : Files.readAllLines(Path.of("README.md"))) {
            if (line.startsWith("```")) {
                inside = line.equals("```java");
            } else if (inside) {
                Matcher m = ANSWERED.matcher(line);
                String due = m.matches() ? "due(() -> " + m.group(1) + ", \"" + m.group(2) + "\");" : line.strip();
                Check.yes("stands here, too: " + due, here.contains(due));
            }
        }
        Check.close("ReadmeTest");
    }

    private static void due(Call call, String due) {
        String got;
        try {
            got = String.valueOf(call.answer());
        } catch (RuntimeException e) {
            got = e.getClass().getSimpleName();
        }
        Check.alike("an answer in README.md", got, due);
    }

    private static void example() {
        ForgetWar x = new ForgetWar();
        tell(x, "memory 5; memory 3 needs 0; soldier 0 1; soldier 1 1 2; knows 0 0 1; knows 1 0 1; plan 1 0 1");
        due(() -> x.war(), "1");
        tell(x, "aim 100; good 50 if foes > 0");
        due(() -> x.law(), "2");
        tell(x, "memory 5; soldire 0 1");
        due(() -> x.war(), "IllegalArgumentException");
        due(() -> x.fault(), "10");
        due(() -> x.falls(1, 0), "2");
        due(() -> x.shoot(0, 1, true), "0");
        due(() -> x.outlasts(1, false, false), "0");
        due(() -> x.led(1, 0), "0");
        due(() -> x.undo(), "true");
        due(() -> x.outlasts(1, false, false), "1");
        due(() -> x.hours(1), "0");
        due(() -> x.shoot(0, 1, true), "IllegalStateException");
        due(() -> x.hours(1), "2");
    }

    static void tell(ForgetWar x, String text) {
        x.end(0);
        for (int from = 0; from < text.length(); from += 20) {
            int[] five = new int[5];
            for (int k = 0; k < 20; k++) {
                int sign = from + k < text.length() ? text.charAt(from + k) & 255 : 0;
                five[k / 4] = five[k / 4] << 8 | sign;
            }
            x.feed(five[0], five[1], five[2], five[3], five[4]);
        }
        x.end(text.length());
    }
}
