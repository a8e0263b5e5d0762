import java.io.IOException;
import java.lang.reflect.Field;
import java.lang.reflect.Method;
import java.lang.reflect.Modifier;
import java.nio.file.Files;
import java.nio.file.Path;
import java.util.List;
import java.util.regex.Matcher;
import java.util.regex.Pattern;

/** Rules of ../shared/LANGUAGE.md that can be seen from the text of the program, or from its classes. */
final class LanguageTest {
    private static final String[] NEVER = {"->", "::", "catch", "finally", "assert", "synchronized", "Exact", "package ",
        "\" +", "+ \"", "System.out", "System.nano", "System.current", "Thread", "Random", "var ", "record ", "static {",
        "equals(", "hashCode(", "Object", "protected ", "@", "getMessage", "null)"};

    public static void main(String[] args) throws IOException {
        List<String> lines = Files.readAllLines(Path.of("src/main/java/ForgetWar.java"));
        int classes = 0;
        int begin = 0;
        for (int k = 0; k < lines.size(); k++) {
            String line = lines.get(k);
            String code = line.strip();
            boolean remark = code.startsWith("*") || code.startsWith("/*") || code.startsWith("//");
            for (String word : NEVER) {
                boolean test = word.equals("null)") && (code.contains("== null)") || code.contains("!= null)"));
                Check.no("line " + (k + 1) + ": " + word, !remark && line.contains(word) && !test);
            }
            if (code.startsWith("import ")) {
                Check.yes("line " + (k + 1), code.equals("import java.util.NoSuchElementException;"));
            }
            if (code.contains(" class ") && !remark) {
                classes++;
            }
            if (line.matches("( {4}| {8})[a-z].*\\{") && !line.contains(" class ")) {
                begin = k;
            }
            if (line.equals("    }") || line.equals("        }")) {
                Check.yes("method at line " + (begin + 1), k - begin < 62 || line.equals("    }"));
            }
        }
        Check.yes("classes", classes <= 12);
        elements(lines);
        shapes(ForgetWar.class);
        for (Class<?> inside : ForgetWar.class.getDeclaredClasses()) {
            shapes(inside);
        }
        Check.close("LanguageTest");
    }

    /** An element is used by a constant index, or by one that is tested in its line or in the one ahead. */
    private static void elements(List<String> lines) {
        Pattern used = Pattern.compile("\\w\\[([^\\]]+)\\]");
        for (int k = 1; k < lines.size(); k++) {
            Matcher m = used.matcher(lines.get(k));
            while (m.find()) {
                String index = m.group(1).split("[^A-Za-z_0-9]")[0];
                String near = lines.get(k - 1) + lines.get(k);
                boolean constant = index.equals(index.toUpperCase());
                boolean made = near.contains("new int[" + index) || near.contains("new Scene[" + index);
                Check.yes("line " + (k + 1) + ": " + m.group(), constant || made || near.matches(".*\\b" + index + " <=? .*"));
            }
        }
    }

    /** Rules 3, 5 and 11 of a class's fields and methods. */
    private static void shapes(Class<?> one) {
        int fields = 0;
        for (Field f : one.getDeclaredFields()) {
            Class<?> type = f.getType();
            Check.yes(one + " " + f.getName(), type == int.class || type == boolean.class || type == int[].class || isOwn(type));
            if (Modifier.isStatic(f.getModifiers())) {
                Check.yes(one + " " + f.getName() + " is a constant", Modifier.isFinal(f.getModifiers()) && type == int.class);
            } else {
                fields++;
            }
        }
        Check.yes(one + " has " + fields + " fields", fields <= 20);
        for (Method m : one.getDeclaredMethods()) {
            Check.yes(one + " " + m.getName() + " has few parameters", m.getParameterCount() <= 7);
            Check.no(one + " " + m.getName() + " is made by javac", m.isSynthetic());
        }
    }

    private static boolean isOwn(Class<?> type) {
        Class<?> part = type.isArray() ? type.getComponentType() : type;
        return part.getName().startsWith("ForgetWar$");
    }
}
