import java.util.List;

/** Promises 20 to 23. */
public final class LooksPrimeTest {
    private static final int BAD = PowerRests.BAD, NONE = PowerRests.NONE;
    private static final PowerRests x = new PowerRests();

    public static void main(String[] args) {
        for (int n = 3; n <= 201; n += 2) {
            looksOf(n);
        }
        for (int n = 3; n <= 2501; n += n < 700 ? 2 : 18) {
            liedOf(n);
        }
        for (int n : new int[] {1729, 2047, 2821, 6561, 15841, 15015, 29341, 40961, 45045, 49141, 49601, 49729, 49999, 50001}) {
            liedOf(n);
        }
        falseOnes();
        fooled();
        wrongOnes();
        Check.end();
    }

    private static boolean strongly(int n, int a) {
        int d = n - 1;
        int s = 0;
        while (d % 2 == 0) {
            d /= 2;
            s++;
        }
        boolean so = Plain.pow(a, d, n) == 1;
        for (int j = 0; j < s; j++) {
            so |= Plain.pow(a, (long) d << j, n) == n - 1;
        }
        return so;
    }

    private static void looksOf(int n) {
        for (int a = 1; a < n; a++) {
            boolean looks = Plain.pow(a, n - 1, n) == 1;
            Check.due(x.looks(n, a, 0), looks ? 1 : 0, "looks", n, a, 0);
            Check.due(x.looks(n, a, 1), strongly(n, a) ? 1 : 0, "looks", n, a, 1);
            Check.due(x.looks(n, a, 2), looks && !Plain.prime(n) ? 1 : 0, "looks", n, a, 2);
        }
    }

    private static void liedOf(int n) {
        Check.due(x.lied(n, 0), Plain.those(1, n - 1, a -> Plain.pow(a, n - 1, n) == 1).size(), "lied", n, 0);
        Check.due(x.lied(n, 1), Plain.those(1, n - 1, a -> strongly(n, a)).size(), "lied", n, 1);
        List<Integer> witnesses = Plain.those(2, n - 2, a -> !strongly(n, a));
        Check.due(x.lied(n, 2), witnesses.isEmpty() ? NONE : witnesses.get(0), "lied", n, 2);
    }

    private static void falseOnes() {
        List<Integer> all = Plain.those(3, 5000, n -> n % 2 == 1 && !Plain.prime(n) && looksToAllUnits(n));
        for (int m : new int[] {3, 4, 560, 561, 562, 1104, 1105, 1729, 2820, 2821, 4999, 5000}) {
            List<Integer> here = Plain.those(3, m, all::contains);
            for (int i = -2; i < 8; i++) {
                Check.due(x.falseOnes(m, i), Plain.told(here, i), "falseOnes", m, i);
            }
            Check.due(x.falseOnes(m, Integer.MAX_VALUE), NONE, "falseOnes", m, Integer.MAX_VALUE);
        }
    }

    private static boolean looksToAllUnits(int n) {
        for (int a = 1; a < n; a++) {
            if (Plain.gcd(a, n) == 1 && Plain.pow(a, n - 1, n) != 1) {
                return false;
            }
        }
        return true;
    }

    private static void fooled() {
        for (int k = 2; k <= 7; k++) {
            int most = k;
            List<Integer> all = Plain.those(9, 50001, n -> n % 2 == 1 && stronglyUpTo(n, most) && !Plain.prime(n));
            for (int m : new int[] {3, 4, 2046, 2047, 2048, 4681, 8321, 49140, 49141, 50000, 50001}) {
                List<Integer> here = Plain.those(3, m, all::contains);
                for (int i = -2; i <= 12; i++) {
                    Check.due(x.fooled(k, m, i), Plain.told(here, i), "fooled", k, m, i);
                }
            }
        }
        Check.due(new PowerRests().fooled(2, 2047, 0), 2047, "fooled", 2, 2047, 0);
    }

    private static boolean stronglyUpTo(int n, int k) {
        for (int a = 2; a <= k; a++) {
            if (!strongly(n, a)) {
                return false;
            }
        }
        return true;
    }

    private static void wrongOnes() {
        for (int n : new int[] {Integer.MIN_VALUE, -7, -1, 0, 1, 2, 4, 50000, 50002, 50003, Integer.MAX_VALUE}) {
            for (int what = 0; what < 3; what++) {
                Check.due(x.looks(n, 1, what), BAD, "looks", n, 1, what);
                Check.due(x.lied(n, what), BAD, "lied", n, what);
            }
        }
        for (int a : new int[] {Integer.MIN_VALUE, -1, 0, 15, 16, Integer.MAX_VALUE}) {
            Check.due(x.looks(15, a, 0), BAD, "looks", 15, a, 0);
        }
        for (int what : new int[] {Integer.MIN_VALUE, -1, 3, Integer.MAX_VALUE}) {
            Check.due(x.looks(15, 2, what), BAD, "looks", 15, 2, what);
            Check.due(x.lied(15, what), BAD, "lied", 15, what);
        }
        for (int m : new int[] {Integer.MIN_VALUE, -1, 0, 1, 2, 5001, Integer.MAX_VALUE}) {
            Check.due(x.falseOnes(m, -1), BAD, "falseOnes", m, -1);
        }
        for (int m : new int[] {Integer.MIN_VALUE, -1, 0, 1, 2, 50002, Integer.MAX_VALUE}) {
            Check.due(x.fooled(2, m, -1), BAD, "fooled", 2, m, -1);
        }
        for (int k : new int[] {Integer.MIN_VALUE, -1, 0, 1, 8, Integer.MAX_VALUE}) {
            Check.due(x.fooled(k, 5000, -1), BAD, "fooled", k, 5000, -1);
        }
        Check.due(x.falseOnes(5000, Integer.MIN_VALUE), BAD, "falseOnes", 5000, Integer.MIN_VALUE);
        Check.due(x.fooled(2, 5000, Integer.MIN_VALUE), BAD, "fooled", 2, 5000, Integer.MIN_VALUE);
    }
}
