import java.util.ArrayList;
import java.util.List;
import java.util.function.IntPredicate;

/** Arithmetic straight from the document's words: it shares nothing with the class. */
public final class Plain {
    private Plain() {
    }

    public static int gcd(int a, int b) {
        return b == 0 ? a : gcd(b, a % b);
    }

    public static boolean prime(int n) {
        for (int d = 2; d <= n / d; d++) {
            if (n % d == 0) {
                return false;
            }
        }
        return n > 1;
    }

    public static int pow(long a, long e, int n) {
        if (e == 0) {
            return 1 % n;
        }
        long half = pow(a, e / 2, n);
        return (int) (half * half % n * (e % 2 == 0 ? 1 : a % n) % n);
    }

    /** The order of a by n, 0 if no power has rest 1. */
    public static int order(long a, int n) {
        long reached = a % n;
        for (int e = 1; e <= n; e++) {
            if (reached == 1 % n) {
                return e;
            }
            reached = reached * a % n;
        }
        return 0;
    }

    public static List<Integer> those(int from, int to, IntPredicate which) {
        List<Integer> all = new ArrayList<>();
        for (int x = from; x <= to; x++) {
            if (which.test(x)) {
                all.add(x);
            }
        }
        return all;
    }

    /** What a call that counts at -1 and tells the i-th must answer. */
    public static int told(List<Integer> all, int i) {
        if (i < -1) {
            return PowerRests.BAD;
        }
        if (i == -1) {
            return all.size();
        }
        return i < all.size() ? all.get(i) : PowerRests.NONE;
    }
}
