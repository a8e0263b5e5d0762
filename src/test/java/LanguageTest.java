import java.io.IOException;
import java.nio.file.Files;
import java.nio.file.Path;
import java.util.List;

/** Rules of ../shared/LANGUAGE.md that can be seen from the text of the program alone. */
final class LanguageTest {
    private static final String[] NEVER = {"->", "::", "catch", "finally", "assert", "synchronized", "Exact", "package ",
        "\" +", "+ \"", "System.out", "System.nano", "System.current", "Thread", "Random", "var ", "record ", "static {",
        "equals(", "hashCode(", "Object", "protected ", "@", "getMessage", "null)"};

    public static void main(String[] args) throws IOException {
        List<String> lines = Files.readAllLines(Path.of("src/main/java/ForgetWar.java"));
        int classes = 0;
        int begin = 0;
        for (int k = 0; k < lines.size(); k++) {
            String line = lines.get(k);
            String code = line.strip();
            boolean remark = code.startsWith("*") || code.startsWith("/*") || code.startsWith("//");
            for (String word : NEVER) {
                boolean test = word.equals("null)") && (code.contains("== null)") || code.contains("!= null)"));
                Check.no("line " + (k + 1) + ": " + word, !remark && line.contains(word) && !test);
            }
            if (code.startsWith("import ")) {
                Check.yes("line " + (k + 1), code.equals("import java.util.NoSuchElementException;"));
            }
            if (code.contains(" class ") && !remark) {
                classes++;
            }
            if (line.matches("( {4}| {8})[a-z].*\\{") && !line.contains(" class ")) {
                begin = k;
            }
            if (line.equals("    }") || line.equals("        }")) {
                Check.yes("method at line " + (begin + 1), k - begin < 62 || line.equals("    }"));
            }
        }
        Check.yes("classes", classes <= 12);
        Check.close("LanguageTest");
    }
}
