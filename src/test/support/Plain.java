import java.util.ArrayList;
import java.util.List;
import java.util.function.IntPredicate;

/** Arithmetic straight from the document's words, slow on purpose: it shares nothing with the class. */
public final class Plain {
    private Plain() {
    }

    public static int gcd(int a, int b) {
        for (int d = Math.max(a, b); d > 1; d--) {
            if (a % d == 0 && b % d == 0) {
                return d;
            }
        }
        return 1;
    }

    public static boolean prime(int n) {
        for (int d = 2; d < n; d++) {
            if (n % d == 0) {
                return false;
            }
        }
        return n > 1;
    }

    public static int pow(long a, long e, int n) {
        return java.math.BigInteger.valueOf(a).modPow(java.math.BigInteger.valueOf(e), java.math.BigInteger.valueOf(n)).intValue();
    }

    /** The order of a by n, 0 if no power has rest 1. */
    public static int order(long a, int n) {
        long reached = a % n;
        for (int e = 1; e <= n; e++) {
            if (reached == 1 % n) {
                return e;
            }
            reached = reached * a % n;
        }
        return 0;
    }

    public static List<Integer> those(int from, int to, IntPredicate which) {
        List<Integer> all = new ArrayList<>();
        for (int x = from; x <= to; x++) {
            if (which.test(x)) {
                all.add(x);
            }
        }
        return all;
    }

    /** What a call that counts at -1 and tells the i-th must answer. */
    public static int told(List<Integer> all, int i) {
        if (i < -1) {
            return PowerRests.BAD;
        }
        if (i == -1) {
            return all.size();
        }
        return i < all.size() ? all.get(i) : PowerRests.NONE;
    }
}
