import java.util.HashMap;
import java.util.List;
import java.util.Map;

/** Promises 2 to 10. */
public final class UnitsPowersTest {
    private static final int BAD = PowerRests.BAD, NO = PowerRests.NO, NONE = PowerRests.NONE;
    private static final int[] GREAT = {30030, 32768, 46656, 49999, 50000, 49998, 44100, 39366, 46189, 43681, 49152, 257, 1024};
    private static final int[] WRONG_N = {Integer.MIN_VALUE, -7, -1, 0, 1, 50001, Integer.MAX_VALUE};
    private static final PowerRests x = new PowerRests();

    public static void main(String[] args) {
        for (int n = 2; n <= 160; n++) {
            unitsAndOrders(n);
            powersAndLogs(n);
            squares(n);
        }
        for (int n : GREAT) {
            unitsAndOrders(n);
            squares(n);
        }
        greatLogsAndRoots();
        signs();
        wrongOnes();
        Check.end();
    }

    private static void unitsAndOrders(int n) {
        List<Integer> units = Plain.those(1, n - 1, a -> Plain.gcd(a, n) == 1);
        told(n, units, "units");
        Map<Integer, Integer> ofOrder = new HashMap<>();
        int greatest = 0;
        int step = n > 1000 ? 37 : 1;
        int[] order = orders(n, units);
        for (int a : units) {
            greatest = Math.max(greatest, order[a]);
            ofOrder.merge(order[a], 1, Integer::sum);
        }
        for (int a = 0; a < n; a += step) {
            Check.due(x.order(n, a), order[a] == 0 ? NO : order[a], "order", n, a);
        }
        Check.due(x.orders(n, 0, 0), greatest, "orders", n, 0, 0);
        Check.due(x.orders(n, -5, 0), greatest, "orders", n, -5, 0);
        Check.due(x.orders(n, 50001, 0), greatest, "orders", n, 50001, 0);
        for (int e = 1; e <= Math.min(50000, n + 20); e += step) {
            Check.due(x.orders(n, e, 1), ofOrder.getOrDefault(e, 0), "orders", n, e, 1);
        }
        for (int e : ofOrder.keySet()) {
            Check.due(x.orders(n, e, 1), ofOrder.get(e), "orders", n, e, 1);
        }
        Check.due(x.orders(n, 50000, 1), ofOrder.getOrDefault(50000, 0), "orders", n, 50000, 1);
        told(n, Plain.those(1, n - 1, a -> order[a] == units.size()), "makers");
    }

    /** All orders: one walk through the powers of a tells the order of each of them. */
    private static int[] orders(int n, List<Integer> units) {
        int[] order = new int[n];
        for (int a : units) {
            if (order[a] != 0) {
                continue;
            }
            int whole = Plain.order(a, n);
            long reached = a;
            for (int e = 1; e <= whole; e++) {
                order[(int) reached] = whole / Plain.gcd(whole, e);
                reached = reached * a % n;
            }
        }
        return order;
    }

    private static void told(int n, List<Integer> all, String call) {
        int step = Math.max(1, all.size() / 150);
        for (int i = -3; i <= all.size() + 1; i += i < 2 || i > all.size() - 2 ? 1 : Math.min(step, all.size() - 1 - i)) {
            Check.due(call.equals("units") ? x.units(n, i) : x.makers(n, i), Plain.told(all, i), call, n, i);
        }
        Check.due(call.equals("units") ? x.units(n, Integer.MAX_VALUE) : x.makers(n, Integer.MAX_VALUE), NONE, call, n, Integer.MAX_VALUE);
        Check.due(call.equals("units") ? x.units(n, Integer.MIN_VALUE) : x.makers(n, Integer.MIN_VALUE), BAD, call, n, Integer.MIN_VALUE);
    }

    private static void powersAndLogs(int n) {
        long[] exponents = {0, 1, 2, 3, 63, 64, 65, 999999999999L, 1000000000000L};
        for (int a = 0; a < n; a++) {
            for (long e : exponents) {
                Check.due(x.power(n, a, e), Plain.pow(a, e, n), "power", n, a, e);
            }
        }
        for (int a = 0; a < n; a += n > 40 ? 7 : 1) {
            for (int b = 0; b < n; b++) {
                int least = NONE;
                for (int e = n + 1; e >= 0; e--) {
                    least = Plain.pow(a, e, n) == b ? e : least;
                }
                Check.due(x.log(n, a, b), least, "log", n, a, b);
            }
        }
        int[] degrees = {1, 2, 3, 4, 6, 99, 100};
        for (int a = 0; a < n; a += n > 40 ? 5 : 1) {
            for (int e : degrees) {
                int which = a;
                List<Integer> all = Plain.those(0, n - 1, r -> Plain.pow(r, e, n) == which);
                for (int i = -2; i <= Math.min(all.size(), 6); i++) {
                    Check.due(x.roots(n, a, e, i), Plain.told(all, i), "roots", n, a, e, i);
                }
                Check.due(x.roots(n, a, e, all.size() - 1), Plain.told(all, all.size() - 1), "roots", n, a, e, all.size() - 1);
            }
        }
    }

    private static void squares(int n) {
        boolean[] square = new boolean[n + 1];
        boolean[] unit = new boolean[n + 1];
        for (int a = 1; a < n; a++) {
            unit[a] = Plain.gcd(a, n) == 1;
        }
        for (long r = 1; r < n; r++) {
            if (unit[(int) r]) {
                square[(int) (r * r % n)] = true;
            }
        }
        int many = 0, longest = 0, begin = 0, first = NONE;
        for (int a = n - 1; a >= 1; a--) {
            many += square[a] ? 1 : 0;
            int run = 0;
            while (square[a + run]) {
                run++;
            }
            if (run >= longest) {
                longest = run;
                begin = a;
            }
            first = unit[a] && !square[a] ? a : first;
        }
        int[] due = {many, longest, begin, first};
        for (int what = 0; what < 4; what++) {
            Check.due(x.squares(n, what), due[what], "squares", n, what);
        }
    }

    private static void greatLogsAndRoots() {
        for (int n : new int[] {50000, 49999, 32768, 30030}) {
            for (int a = 0; a < n; a += 4999) {
                int[] least = new int[n];
                java.util.Arrays.fill(least, NONE);
                long reached = 1;
                for (int e = 0; e < n; e++) {
                    if (least[(int) reached] == NONE) {
                        least[(int) reached] = e;
                    }
                    reached = reached * a % n;
                }
                for (int b = 0; b < n; b += 1003) {
                    Check.due(x.log(n, a, b), least[b], "log", n, a, b);
                }
                Check.due(x.log(n, a, n - 1), least[n - 1], "log", n, a, n - 1);
                List<Integer> all = Plain.those(0, n - 1, r -> Plain.pow(r, 12, n) == Plain.pow(7, 12, n));
                Check.due(x.roots(n, Plain.pow(7, 12, n), 12, -1), all.size(), "roots", n, 12, -1);
                Check.due(x.roots(n, Plain.pow(7, 12, n), 12, all.size() / 2), all.get(all.size() / 2), "roots", n, 12);
            }
        }
    }

    private static int plainSign(int a, int m) {
        int product = 1;
        int open = m;
        for (int p = 2; p <= open; p++) {
            while (open % p == 0) {
                open /= p;
                product *= signBy(a, p);
            }
        }
        return product;
    }

    private static int signBy(int a, int p) {
        if (a % p == 0) {
            return 0;
        }
        for (long r = 1; r < p; r++) {
            if (r * r % p == a % p) {
                return 1;
            }
        }
        return -1;
    }

    private static void signs() {
        for (int m = 1; m <= 315; m += 2) {
            for (int a = 0; a <= 320; a++) {
                Check.due(x.sign(a, m), plainSign(a, m), "sign", a, m);
            }
        }
        for (int m : new int[] {99999, 99991, 99225, 59049, 78125, 97969, 49999}) {
            for (int a : new int[] {0, 1, 2, 3, 7, 313, 99999, 500000, 999999, 1000000}) {
                Check.due(x.sign(a, m), plainSign(a, m), "sign", a, m);
            }
        }
        int[][] wrong = {{-1, 3}, {1000001, 3}, {1, 0}, {1, -1}, {1, -3}, {1, 2}, {1, 99998}, {1, 100000}, {1, 100001},
            {Integer.MIN_VALUE, 1}, {Integer.MAX_VALUE, 1}, {1, Integer.MIN_VALUE}, {1, Integer.MAX_VALUE}};
        for (int[] w : wrong) {
            Check.due(x.sign(w[0], w[1]), -100, "sign", w[0], w[1]);
        }
    }

    private static void wrongOnes() {
        for (int n : WRONG_N) {
            Check.due(x.units(n, -1), BAD, "units", n, -1);
            Check.due(x.order(n, 1), BAD, "order", n, 1);
            Check.due(x.order(n, 0), BAD, "order", n, 0);
            Check.due(x.orders(n, 1, 0), BAD, "orders", n, 1, 0);
            Check.due(x.orders(n, 1, 1), BAD, "orders", n, 1, 1);
            Check.due(x.makers(n, -1), BAD, "makers", n, -1);
            Check.due(x.power(n, 0, 1), BAD, "power", n, 0, 1);
            Check.due(x.log(n, 0, 0), BAD, "log", n, 0, 0);
            Check.due(x.roots(n, 0, 1, -1), BAD, "roots", n, 0, 1, -1);
            Check.due(x.squares(n, 0), BAD, "squares", n, 0);
        }
        for (int a : new int[] {Integer.MIN_VALUE, -1, 12, 13, Integer.MAX_VALUE}) {
            Check.due(x.order(12, a), BAD, "order", 12, a);
            Check.due(x.power(12, a, 1), BAD, "power", 12, a, 1);
            Check.due(x.log(12, a, 1), BAD, "log", 12, a, 1);
            Check.due(x.log(12, 1, a), BAD, "log", 12, 1, a);
            Check.due(x.roots(12, a, 1, -1), BAD, "roots", 12, a, 1, -1);
        }
        for (int e : new int[] {Integer.MIN_VALUE, -1, 0, 50001, Integer.MAX_VALUE}) {
            Check.due(x.orders(12, e, 1), BAD, "orders", 12, e, 1);
        }
        for (int e : new int[] {Integer.MIN_VALUE, -1, 0, 101, Integer.MAX_VALUE}) {
            Check.due(x.roots(12, 1, e, -1), BAD, "roots", 12, 1, e, -1);
        }
        for (int what : new int[] {Integer.MIN_VALUE, -1, 2, 3, Integer.MAX_VALUE}) {
            Check.due(x.orders(12, 1, what), BAD, "orders", 12, 1, what);
        }
        for (int what : new int[] {Integer.MIN_VALUE, -1, 4, Integer.MAX_VALUE}) {
            Check.due(x.squares(12, what), BAD, "squares", 12, what);
        }
        for (long e : new long[] {Long.MIN_VALUE, -1, 1000000000001L, Long.MAX_VALUE}) {
            Check.due(x.power(12, 5, e), BAD, "power", 12, 5, e);
        }
    }
}
