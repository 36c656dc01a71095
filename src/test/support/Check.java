/** Counts answers that are not as due; a test ends by end(). */
public final class Check {
    private static final int MOST_LINES = 40;
    private static int asked = 0;
    private static int wrong = 0;

    private Check() {
    }

    /** The call is named by its parts only when its answer is wrong: most tests ask a million of them. */
    public static void due(long got, long want, String call, long... arguments) {
        asked++;
        if (got != want) {
            wrong++;
            if (wrong <= MOST_LINES) {
                System.out.println(call + java.util.Arrays.toString(arguments) + " answered " + got + ", due is " + want);
            }
        }
    }

    public static void holds(boolean so, String what) {
        asked++;
        if (!so) {
            wrong++;
            System.out.println("not so: " + what);
        }
    }

    public static void end() {
        System.out.println(asked + " asked, " + wrong + " wrong");
        if (wrong != 0 || asked == 0) {
            System.exit(1);
        }
    }
}
