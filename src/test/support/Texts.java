/** Writes texts as a caller does: up to eight bytes a call. */
public final class Texts {
    private Texts() {
    }

    /** What the last call answered. */
    public static int write(PowerRests x, String text) {
        int answer = 0;
        for (int at = 0; at < text.length(); at += 8) {
            answer = x.write(Math.min(8, text.length() - at), bytes(text.substring(at, Math.min(at + 8, text.length()))));
        }
        return answer;
    }

    /** Up to eight signs as one number, the first the highest. */
    public static long bytes(String signs) {
        long v = 0;
        for (char sign : signs.toCharArray()) {
            v = v << 8 | sign;
        }
        return v;
    }

    /** An object that has just this TEXT. */
    public static PowerRests with(String text) {
        PowerRests x = new PowerRests();
        write(x, text);
        return x;
    }

    /** An object that has this TEXT and has tried to lay it. */
    public static PowerRests laid(String text) {
        PowerRests x = with(text);
        x.lay();
        return x;
    }
}
