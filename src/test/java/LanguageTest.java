import java.nio.file.Files;
import java.nio.file.Path;
import java.util.List;
import java.util.regex.Matcher;
import java.util.regex.Pattern;

/** Rules of LANGUAGE.md that the source alone can show; .ci/run starts each test in the project's folder. */
public final class LanguageTest {
    private static final Path SOURCE = Path.of("src/main/java/PowerRests.java");
    private static final int MOST_LINES = 60;
    private static final String[] FORBIDDEN = {"\\bthrow\\b", "\\bthrows\\b", "\\btry\\b", "\\bcatch\\b", "\\bsynchronized\\b", "\\bassert\\b", "\\bpackage\\b",
        "\\bimport\\b", "->", "::", "\\bSystem\\.(?!arraycopy)", "\\bThread\\b", "\\bRandom\\b", "Exact\\(", "\\bprotected\\b", "\\bvar\\b", "\\bvolatile\\b",
        "\\bnative\\b", "\\bObject\\b", "while \\(true\\)", "for \\(;;\\)", "static \\{", "\" \\+", "\\+ \"", "\\[\\]\\[\\]\\["};

    public static void main(String[] args) throws Exception {
        List<String> lines = Files.readAllLines(SOURCE);
        int begin = -1;
        for (int k = 0; k < lines.size(); k++) {
            String code = withoutComment(lines.get(k));
            for (String rule : FORBIDDEN) {
                Matcher m = Pattern.compile(rule).matcher(code);
                Check.holds(!m.find(), "line " + (k + 1) + " has nothing of " + rule);
            }
            if (code.matches(" {4}(?: {4})?[^ }].*\\) \\{")) {
                begin = k;
            }
            if (code.matches(" {4}(?: {4})?\\}") && begin >= 0) {
                Check.holds(k - begin < MOST_LINES, "the method at line " + (begin + 1) + " is short");
                begin = -1;
            }
        }
        Check.holds(lines.size() > 100, "the source was read");
        Check.end();
    }

    private static String withoutComment(String line) {
        String open = line.strip();
        if (open.startsWith("/*") || open.startsWith("*")) {
            return "";
        }
        int at = line.indexOf("//");
        return at < 0 ? line : line.substring(0, at);
    }
}
