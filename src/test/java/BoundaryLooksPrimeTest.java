/** Promises 20 to 23: each sentence that names a boundary has a test of its own. */
public final class BoundaryLooksPrimeTest {
    private static final int BAD = PowerRests.BAD, NONE = PowerRests.NONE;
    private static final int LEAST = Integer.MIN_VALUE, MOST = Integer.MAX_VALUE;
    private static final int[] FALSE_ONES = {561, 1105, 1729, 2465, 2821};
    private static final int[] FOOLED = {2047, 3277, 4033, 4681, 8321, 15841, 29341, 42799, 49141};
    private static final PowerRests x = new PowerRests();

    public static void main(String[] args) {
        oddOnes();
        toWhom();
        units();
        lies();
        strongly();
        whatOfLooks();
        liedTo();
        liedStrongly();
        witness();
        whatOfLied();
        falseBounds();
        falseByPlace();
        fooledBounds();
        fooledUpTo();
        fooledByPlace();
        Check.end();
    }

    private static void oddOnes() {
        Check.sentence("LOOKS PRIME n (odd, 3 to 50001)");
        for (int n : new int[] {LEAST, LEAST + 1, -9, -3, -1, 0, 1, 2, 4, 6, 50000, 50002, 50003, MOST}) {
            for (int what = 0; what <= 2; what++) {
                Check.due(x.looks(n, 1, what), BAD, "looks", n, 1, what);
                Check.due(x.lied(n, what), BAD, "lied", n, what);
            }
        }
        int[] three = {1, 1, 0};
        int[] greatest = {1, 1, 1};
        int[] liedOfThree = {2, 2, NONE};
        int[] liedOfGreatest = {80, 10, 2};
        for (int what = 0; what <= 2; what++) {
            Check.due(x.looks(3, 2, what), three[what], "looks", 3, 2, what);
            Check.due(x.looks(50001, 50000, what), greatest[what], "looks", 50001, 50000, what);
            Check.due(x.lied(3, what), liedOfThree[what], "lied", 3, what);
            Check.due(x.lied(50001, what), liedOfGreatest[what], "lied", 50001, what);
        }
    }

    private static void toWhom() {
        Check.sentence("BAD (a 1 to n - 1, n odd).");
        for (int n : new int[] {3, 9, 50001}) {
            for (int what = 0; what <= 2; what++) {
                for (int a : new int[] {LEAST, -n, -1, 0, n, n + 1, MOST}) {
                    Check.due(x.looks(n, a, what), BAD, "looks", n, a, what);
                }
                int first = what == 2 && n == 3 ? 0 : 1;
                Check.due(x.looks(n, 1, what), first, "looks", n, 1, what);
                Check.due(x.looks(n, n - 1, what), first, "looks", n, n - 1, what);
            }
        }
    }

    private static void units() {
        Check.sentence("to a UNIT a: its power of n - 1 has rest 1.");
        // To one that shares a divisor with n it looks prime in no way.
        for (int what = 0; what <= 2; what++) {
            for (int a = 3; a < 561; a += 3) {
                Check.due(x.looks(561, a, what), 0, "looks", 561, a, what);
            }
            Check.due(x.looks(9, 3, what), 0, "looks", 9, 3, what);
            Check.due(x.looks(9, 6, what), 0, "looks", 9, 6, what);
        }
        Check.due(x.looks(561, 2, 0), 1, "looks", 561, 2, 0);
        Check.due(x.looks(9, 2, 0), 0, "looks", 9, 2, 0);
        Check.due(x.looks(9, 8, 0), 1, "looks", 9, 8, 0);
        Check.due(x.looks(15, 4, 0), 1, "looks", 15, 4, 0);
        Check.due(x.looks(15, 2, 0), 0, "looks", 15, 2, 0);
    }

    private static void lies() {
        Check.sentence("LIES to a: it looks so and is not prime.");
        for (int n : new int[] {3, 5, 7, 17, 49999}) {
            Check.due(x.looks(n, 2, 0), 1, "looks", n, 2, 0);
            Check.due(x.looks(n, 2, 2), 0, "looks", n, 2, 2);
        }
        Check.due(x.looks(341, 2, 2), 1, "looks", 341, 2, 2);
        Check.due(x.looks(341, 3, 2), 0, "looks", 341, 3, 2);
        Check.due(x.looks(9, 1, 2), 1, "looks", 9, 1, 2);
        Check.due(x.looks(49, 18, 2), 1, "looks", 49, 18, 2);
        // It lies though it does not look so strongly.
        Check.due(x.looks(15, 4, 2), 1, "looks", 15, 4, 2);
        Check.due(x.looks(15, 4, 1), 0, "looks", 15, 4, 1);
    }

    private static void strongly() {
        Check.sentence("STRONG: n - 1 is d times 2 to the s, d odd: the power of d has rest 1, "
            + "or one of powers of d, 2 d, 4 d, .. (s of them) has rest n - 1.");
        // {n, a, due}: the power of d is 1; it is n - 1; the last of the s powers is; n - 1 is odd times 2.
        int[][] due = {{49, 18, 1}, {49, 19, 1}, {17, 3, 1}, {5, 2, 1}, {3, 2, 1}, {7, 2, 1}, {7, 3, 1}, {2047, 2, 1},
            // 7 times 7 is 24 by 25, the second of three powers of 7: 7 to the 3 is 18, to the 6 is 24.
            {25, 7, 1}, {25, 2, 0}, {341, 2, 0}, {561, 2, 0}, {15, 4, 0}, {15, 14, 1}, {65, 8, 1}, {65, 14, 0}, {49999, 2, 1}};
        for (int[] one : due) {
            Check.due(x.looks(one[0], one[1], 1), one[2], "looks", one[0], one[1], 1);
        }
    }

    private static void whatOfLooks() {
        Check.sentence("1: n LOOKS PRIME to a (what = 0), STRONGly (1), it LIES to a (2); 0.");
        for (int what : new int[] {LEAST, -1, 3, MOST}) {
            Check.due(x.looks(9, 8, what), BAD, "looks", 9, 8, what);
            Check.due(x.looks(7, 2, what), BAD, "looks", 7, 2, what);
        }
    }

    private static void liedTo() {
        Check.sentence("LIED TO: how many of 1 to n - 1 n looks prime to (units or not: what has power of n - 1 with rest 1)");
        int[][] due = {{3, 2}, {5, 4}, {9, 2}, {15, 4}, {21, 4}, {25, 4}, {27, 2}, {341, 100}, {561, 320}, {1105, 768}, {49999, 49998}, {50001, 80}};
        for (int[] one : due) {
            Check.due(x.lied(one[0], 0), one[1], "lied", one[0], 0);
        }
    }

    private static void liedStrongly() {
        Check.sentence("strongly; WITNESS:");
        int[][] due = {{3, 2}, {5, 4}, {9, 2}, {15, 2}, {21, 2}, {25, 4}, {27, 2}, {49, 6}, {65, 6}, {91, 18}, {561, 10}, {49999, 49998}};
        for (int[] one : due) {
            Check.due(x.lied(one[0], 1), one[1], "lied", one[0], 1);
        }
    }

    private static void witness() {
        Check.sentence("WITNESS: the least of 2 to n - 2 to which it does not look so strongly; none.");
        int[][] due = {{3, NONE}, {5, NONE}, {7, NONE}, {9, 2}, {15, 2}, {25, 2}, {2047, 3}, {3277, 3}, {49141, 3}, {49999, NONE}, {50001, 2}};
        for (int[] one : due) {
            Check.due(x.lied(one[0], 2), one[1], "lied", one[0], 2);
        }
    }

    private static void whatOfLied() {
        Check.sentence("LIED TO: how many it looks prime to (what = 0), strongly (1), WITNESS (2; NONE). BAD.");
        for (int what : new int[] {LEAST, -1, 3, MOST}) {
            Check.due(x.lied(9, what), BAD, "lied", 9, what);
            Check.due(x.lied(3, what), BAD, "lied", 3, what);
        }
    }

    private static void falseBounds() {
        Check.sentence("FALSE: numbers (odd, not prime, 3 to M, M to 5000) that look prime to all their UNITS: how many, the i-th.");
        for (int m : new int[] {LEAST, -1, 0, 1, 2, 5001, MOST}) {
            Check.due(x.falseOnes(m, -1), BAD, "falseOnes", m, -1);
            Check.due(x.falseOnes(m, 0), BAD, "falseOnes", m, 0);
        }
        Check.due(x.falseOnes(3, -1), 0, "falseOnes", 3, -1);
        Check.due(x.falseOnes(5000, -1), 5, "falseOnes", 5000, -1);
        for (int k = 0; k < FALSE_ONES.length; k++) {
            Check.due(x.falseOnes(FALSE_ONES[k] - 1, -1), k, "falseOnes", FALSE_ONES[k] - 1, -1);
            Check.due(x.falseOnes(FALSE_ONES[k], -1), k + 1, "falseOnes", FALSE_ONES[k], -1);
            Check.due(x.falseOnes(FALSE_ONES[k], k), FALSE_ONES[k], "falseOnes", FALSE_ONES[k], k);
            Check.due(x.falseOnes(FALSE_ONES[k] - 1, k), NONE, "falseOnes", FALSE_ONES[k] - 1, k);
        }
    }

    private static void falseByPlace() {
        Check.sentence("FALSE ones to M: how many (i = -1), the i-th. NONE; BAD.");
        for (int i : new int[] {LEAST, -2}) {
            Check.due(x.falseOnes(5000, i), BAD, "falseOnes", 5000, i);
            Check.due(x.falseOnes(3, i), BAD, "falseOnes", 3, i);
        }
        for (int i : new int[] {5, 6, MOST}) {
            Check.due(x.falseOnes(5000, i), NONE, "falseOnes", 5000, i);
        }
        Check.due(x.falseOnes(3, 0), NONE, "falseOnes", 3, 0);
        Check.due(x.falseOnes(5000, 0), 561, "falseOnes", 5000, 0);
        Check.due(x.falseOnes(5000, 4), 2821, "falseOnes", 5000, 4);
    }

    private static void fooledBounds() {
        Check.sentence("FOOLED: such (odd, not prime, 3 to M, M to 50001 here)");
        for (int m : new int[] {LEAST, -1, 0, 1, 2, 50002, 50003, MOST}) {
            Check.due(x.fooled(2, m, -1), BAD, "fooled", 2, m, -1);
            Check.due(x.fooled(2, m, 0), BAD, "fooled", 2, m, 0);
        }
        Check.due(x.fooled(2, 3, -1), 0, "fooled", 2, 3, -1);
        Check.due(x.fooled(2, 4, -1), 0, "fooled", 2, 4, -1);
        Check.due(x.fooled(2, 50001, -1), 9, "fooled", 2, 50001, -1);
        for (int k = 0; k < FOOLED.length; k++) {
            // A new object each time: the first such call of an object answers as any later one.
            Check.due(new PowerRests().fooled(2, FOOLED[k] - 1, -1), k, "fooled", 2, FOOLED[k] - 1, -1);
            Check.due(new PowerRests().fooled(2, FOOLED[k], -1), k + 1, "fooled", 2, FOOLED[k], -1);
            Check.due(x.fooled(2, FOOLED[k], k), FOOLED[k], "fooled", 2, FOOLED[k], k);
            Check.due(x.fooled(2, FOOLED[k] - 1, k), NONE, "fooled", 2, FOOLED[k] - 1, k);
        }
    }

    private static void fooledUpTo() {
        Check.sentence("that look so strongly to 2, 3, .. k (k 2 to 7): how many, the i-th.");
        for (int k : new int[] {LEAST, -2, 0, 1, 8, 9, MOST}) {
            Check.due(x.fooled(k, 50001, -1), BAD, "fooled", k, 50001, -1);
            Check.due(x.fooled(k, 50001, 0), BAD, "fooled", k, 50001, 0);
        }
        // None to 50001 looks so to both 2 and 3.
        for (int k = 3; k <= 7; k++) {
            Check.due(x.fooled(k, 50001, -1), 0, "fooled", k, 50001, -1);
            Check.due(x.fooled(k, 50001, 0), NONE, "fooled", k, 50001, 0);
        }
    }

    private static void fooledByPlace() {
        Check.sentence("FOOLED up to k, to M: how many (i = -1), the i-th. NONE; BAD.");
        for (int i : new int[] {LEAST, -2}) {
            Check.due(x.fooled(2, 50001, i), BAD, "fooled", 2, 50001, i);
            Check.due(x.fooled(7, 3, i), BAD, "fooled", 7, 3, i);
        }
        for (int i : new int[] {9, 10, MOST}) {
            Check.due(x.fooled(2, 50001, i), NONE, "fooled", 2, 50001, i);
        }
        Check.due(x.fooled(2, 50001, 0), 2047, "fooled", 2, 50001, 0);
        Check.due(x.fooled(2, 50001, 8), 49141, "fooled", 2, 50001, 8);
    }
}
