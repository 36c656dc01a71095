import java.nio.file.Files;
import java.nio.file.Path;
import java.util.ArrayList;
import java.util.List;
import java.util.regex.Matcher;
import java.util.regex.Pattern;

/** Rules of LANGUAGE.md that the source alone can show; .ci/run starts each test in the project's folder. */
public final class LanguageTest {
    private static final Path SOURCE = Path.of("src/main/java/PowerRests.java");
    private static final int MOST_LINES = 60;
    private static final String[] FORBIDDEN = {"\\bthrow\\b", "\\bthrows\\b", "\\btry\\b", "\\bcatch\\b", "\\bsynchronized\\b", "\\bassert\\b", "\\bpackage\\b",
        "\\bimport\\b", "->", "::", "\\bSystem\\.(?!arraycopy)", "\\bThread\\b", "\\bRandom\\b", "Exact\\(", "\\bprotected\\b", "\\bvar\\b", "\\bvolatile\\b",
        "\\bnative\\b", "\\bObject\\b", "while \\(true\\)", "for \\(;;\\)", "static \\{", "\" \\+", "\\+ \"", "\\[\\]\\[\\]\\["};
    // A name and its bracket without a space between them: a method, and no if, for, while or switch.
    private static final Pattern BEGIN = Pattern.compile("( {4}(?: {4})?)(?:[a-z\\[\\]]+ )*[a-zA-Z]+\\(.*\\) \\{");

    public static void main(String[] args) throws Exception {
        List<String> lines = new ArrayList<>();
        for (String line : Files.readAllLines(SOURCE)) {
            lines.add(withoutComment(line));
        }
        Check.holds(lines.size() > 100, "the source was read");
        forbidden(lines);
        List<String> methods = methods(lines);
        Check.holds(methods.size() > 80, "the methods were seen: " + methods.size());
        int divisions = 0;
        for (String method : methods) {
            Check.holds(method.split("\n").length <= MOST_LINES, "short is " + nameOf(method));
            divisions += divisorsOf(method);
        }
        Check.holds(divisions > 20, "divisions were seen: " + divisions);
        Check.end();
    }

    private static void forbidden(List<String> lines) {
        for (int k = 0; k < lines.size(); k++) {
            for (String rule : FORBIDDEN) {
                Check.holds(!Pattern.compile(rule).matcher(lines.get(k)).find(), "line " + (k + 1) + " has nothing of " + rule);
            }
        }
    }

    /** The text of each method, from its head to the bracket that closes it. */
    private static List<String> methods(List<String> lines) {
        List<String> found = new ArrayList<>();
        StringBuilder open = new StringBuilder();
        String indent = null;
        for (String line : lines) {
            Matcher begin = BEGIN.matcher(line);
            if (indent == null && begin.matches()) {
                indent = begin.group(1);
            }
            if (indent != null) {
                open.append(line).append('\n');
                if (line.equals(indent + "}")) {
                    found.add(open.toString());
                    open.setLength(0);
                    indent = null;
                }
            }
        }
        return found;
    }

    /** Rule 7: a method that divides by a name has looked at it itself, or begins to count it above 0. */
    private static int divisorsOf(String method) {
        int seen = 0;
        Matcher division = Pattern.compile("[/%]=? *([^ =;,)]+)").matcher(method);
        while (division.find()) {
            String by = division.group(1);
            seen++;
            String look = "isDivisor\\(" + by + "\\)|\\b" + by + " (?:<|>|!=) [0-9]|int " + by + " = [1-9]";
            boolean isNumber = by.matches("[1-9][0-9]*");
            boolean isLookedAt = by.matches("[a-zA-Z]+") && Pattern.compile(look).matcher(method).find();
            Check.holds(isNumber || isLookedAt, "the divisor " + by + " is looked at in " + nameOf(method));
        }
        return seen;
    }

    private static String nameOf(String method) {
        return method.split("\n")[0].strip();
    }

    private static String withoutComment(String line) {
        String open = line.strip();
        if (open.startsWith("/*") || open.startsWith("*")) {
            return "";
        }
        int at = line.indexOf("//");
        return at < 0 ? line : line.substring(0, at);
    }
}
