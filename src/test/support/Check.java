import java.io.IOException;
import java.nio.file.Files;
import java.nio.file.Path;
import java.util.Arrays;

/** Counts answers that are not as due; a test ends by end(). */
public final class Check {
    private static final int MOST_LINES = 40;
    private static final Path DOCUMENT = Path.of("../shared/DOC.md");
    private static int asked = 0;
    private static int wrong = 0;
    private static int askedBefore = 0;
    private static String sentence = "";
    private static String document = null;

    private Check() {
    }

    /** What is asked from here on guards these words, which must stand in the document. */
    public static void sentence(String words) {
        holds(sentence.isEmpty() || asked > askedBefore, "something is asked of: " + sentence);
        sentence = "";
        holds(Files.notExists(DOCUMENT) || document().contains(oneLine(words)), "the document says: " + words);
        sentence = words;
        askedBefore = asked;
    }

    private static String document() {
        if (document == null) {
            try {
                document = oneLine(Files.readString(DOCUMENT));
            } catch (IOException e) {
                document = "";
            }
        }
        return document;
    }

    private static String oneLine(String words) {
        return words.replaceAll("\\s+", " ");
    }

    /** The call is named by its parts only when its answer is wrong: most tests ask a million of them. */
    public static void due(long got, long want, String call, long... arguments) {
        asked++;
        if (got != want) {
            tell(call + Arrays.toString(arguments) + " answered " + got + ", due is " + want);
        }
    }

    public static void holds(boolean so, String what) {
        asked++;
        if (!so) {
            tell("not so: " + what);
        }
    }

    private static void tell(String line) {
        wrong++;
        if (wrong <= MOST_LINES) {
            System.out.println(line + (sentence.isEmpty() ? "" : "   <- " + sentence));
        }
    }

    public static void end() {
        System.out.println(asked + " asked, " + wrong + " wrong");
        if (wrong != 0 || asked == 0) {
            System.exit(1);
        }
    }
}
