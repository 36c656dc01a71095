/** Promises 24 to 28: each sentence that names a boundary has a test of its own. */
public final class BoundaryFiguresTowersTest {
    private static final int BAD = PowerRests.BAD, NO = PowerRests.NO, NONE = PowerRests.NONE;
    private static final int LEAST = Integer.MIN_VALUE, MOST = Integer.MAX_VALUE;
    private static final PowerRests x = new PowerRests();

    public static void main(String[] args) {
        divisors();
        bases();
        aheadAndRound();
        whatOfBroken();
        figuresInOrder();
        figureBounds();
        soLongBounds();
        soLongZero();
        lengths();
        soLongByPlace();
        turningWho();
        turningPlaces();
        turningTimes();
        towerOrder();
        towerLengths();
        towerNumbers();
        towerBits();
        highTowers();
        Check.end();
    }

    private static void divisors() {
        Check.sentence("By N (2 to 50000)");
        for (int n : new int[] {LEAST, -7, -1, 0, 1, 50001, MOST}) {
            Check.due(x.broken(10, n, 0), BAD, "broken", 10, n, 0);
            Check.due(x.broken(10, n, 1), BAD, "broken", 10, n, 1);
            Check.due(x.figure(10, n, 0), BAD, "figure", 10, n, 0);
            Check.due(x.turning(10, n, 1), BAD, "turning", 10, n, 1);
            Check.due(x.tower(n, 1, 1), BAD, "tower", n, 1, 1);
        }
        Check.due(x.broken(10, 2, 0), 1, "broken", 10, 2, 0);
        Check.due(x.broken(10, 2, 1), 0, "broken", 10, 2, 1);
        Check.due(x.broken(3, 2, 0), 0, "broken", 3, 2, 0);
        Check.due(x.broken(3, 2, 1), 1, "broken", 3, 2, 1);
        Check.due(x.broken(10, 50000, 0), 5, "broken", 10, 50000, 0);
        Check.due(x.broken(10, 50000, 1), 0, "broken", 10, 50000, 1);
        Check.due(x.broken(2, 50000, 0), 4, "broken", 2, 50000, 0);
        Check.due(x.broken(2, 50000, 1), 2500, "broken", 2, 50000, 1);
        Check.due(x.figure(10, 2, 0), 5, "figure", 10, 2, 0);
        Check.due(x.figure(10, 50000, 3), 0, "figure", 10, 50000, 3);
        Check.due(x.figure(10, 50000, 4), 2, "figure", 10, 50000, 4);
        Check.due(x.figure(10, 50000, 5), 0, "figure", 10, 50000, 5);
        Check.due(x.turning(3, 2, 1), 0, "turning", 3, 2, 1);
        Check.due(x.turning(3, 50000, 1), NO, "turning", 3, 50000, 1);
        Check.due(x.tower(2, 1, 1000), 0, "tower", 2, 1, 1000);
        Check.due(x.tower(2, 1, 999), 1, "tower", 2, 1, 999);
        Check.due(x.tower(50000, 1, 1000), 1000, "tower", 50000, 1, 1000);
    }

    private static void bases() {
        Check.sentence("in a BASE b (2 to 36):");
        for (int b : new int[] {LEAST, -10, -1, 0, 1, 37, MOST}) {
            Check.due(x.broken(b, 7, 0), BAD, "broken", b, 7, 0);
            Check.due(x.broken(b, 7, 1), BAD, "broken", b, 7, 1);
            Check.due(x.figure(b, 7, 0), BAD, "figure", b, 7, 0);
            Check.due(x.soLong(b, 6, 7, -1), BAD, "soLong", b, 6, 7, -1);
            Check.due(x.turning(b, 7, 1), BAD, "turning", b, 7, 1);
        }
        Check.due(x.broken(2, 7, 1), 3, "broken", 2, 7, 1);
        Check.due(x.broken(36, 50000, 0), 2, "broken", 36, 50000, 0);
        Check.due(x.broken(36, 50000, 1), 625, "broken", 36, 50000, 1);
        Check.due(x.figure(2, 2, 0), 1, "figure", 2, 2, 0);
        Check.due(x.figure(36, 2, 0), 18, "figure", 36, 2, 0);
        Check.due(x.figure(36, 37, 0), 0, "figure", 36, 37, 0);
        Check.due(x.figure(36, 37, 1), 35, "figure, the greatest", 36, 37, 1);
        Check.due(x.soLong(2, 2, 3, 0), 3, "soLong", 2, 2, 3, 0);
        Check.due(x.soLong(36, 1, 5, 0), 5, "soLong", 36, 1, 5, 0);
        Check.due(x.turning(2, 3, 2), 1, "turning", 2, 3, 2);
        Check.due(x.turning(36, 2, 1), NO, "turning", 36, 2, 1);
    }

    private static void aheadAndRound() {
        Check.sentence("AHEAD: how many figures come ahead of those that come round; ROUND: how many come round (0: it ends).");
        // {b, n, AHEAD, ROUND}: none ahead; ends; both; ends at once; as far as 50000 goes.
        int[][] due = {{10, 3, 0, 1}, {10, 7, 0, 6}, {10, 8, 3, 0}, {10, 10, 1, 0}, {10, 6, 1, 1}, {10, 12, 2, 1}, {10, 28, 2, 6}, {2, 2, 1, 0},
            {2, 32768, 15, 0}, {32, 32768, 3, 0}, {36, 36, 1, 0}, {36, 46656, 3, 0}, {36, 35, 0, 1}, {36, 5, 0, 1}, {6, 48, 4, 0}, {12, 18, 2, 0},
            {2, 49152, 14, 2}, {3, 19683, 9, 0}, {10, 49999, 0, 641}, {3, 49999, 0, 49998}, {36, 2, 1, 0}, {36, 4, 1, 0}, {36, 8, 2, 0}};
        for (int[] one : due) {
            Check.due(x.broken(one[0], one[1], 0), one[2], "broken", one[0], one[1], 0);
            Check.due(x.broken(one[0], one[1], 1), one[3], "broken", one[0], one[1], 1);
        }
    }

    private static void whatOfBroken() {
        Check.sentence("BROKEN FIGURES of 1 by N: AHEAD (what = 0), ROUND (1). BAD.");
        for (int what : new int[] {LEAST, -1, 2, MOST}) {
            Check.due(x.broken(10, 7, what), BAD, "broken", 10, 7, what);
            Check.due(x.broken(10, 8, what), BAD, "broken", 10, 8, what);
        }
    }

    private static void figuresInOrder() {
        Check.sentence("The i-th figure (0 first behind the point).");
        int[] seventh = {1, 4, 2, 8, 5, 7, 1, 4};
        int[] twelfth = {0, 8, 3, 3, 3};
        int[] eighth = {1, 2, 5, 0, 0};
        int[] cube = {0, 0, 1, 0};
        figures(10, 7, seventh);
        figures(10, 12, twelfth);
        figures(10, 8, eighth);
        figures(36, 46656, cube);
        figures(2, 3, new int[] {0, 1, 0, 1});
    }

    private static void figures(int b, int n, int[] due) {
        for (int i = 0; i < due.length; i++) {
            Check.due(x.figure(b, n, i), due[i], "figure", b, n, i);
        }
    }

    private static void figureBounds() {
        Check.sentence("The i-th figure (i to 1000000). BAD.");
        for (int i : new int[] {LEAST, -2, -1, 1000001, MOST}) {
            Check.due(x.figure(10, 7, i), BAD, "figure", 10, 7, i);
            Check.due(x.figure(10, 8, i), BAD, "figure", 10, 8, i);
        }
        Check.due(x.figure(10, 7, 0), 1, "figure", 10, 7, 0);
        Check.due(x.figure(10, 7, 999999), 8, "figure", 10, 7, 999999);
        Check.due(x.figure(10, 7, 1000000), 5, "figure", 10, 7, 1000000);
        // Behind the end there are only zeros.
        Check.due(x.figure(10, 8, 1000000), 0, "figure", 10, 8, 1000000);
    }

    private static void soLongBounds() {
        Check.sentence("SO LONG: numbers 2 to M (M to 3000) whose ROUND is L: how many, the i-th.");
        for (int m : new int[] {LEAST, -1, 0, 1, 3001, MOST}) {
            Check.due(x.soLong(10, 0, m, -1), BAD, "soLong", 10, 0, m, -1);
            Check.due(x.soLong(10, 1, m, 0), BAD, "soLong", 10, 1, m, 0);
        }
        Check.due(x.soLong(10, 0, 2, -1), 1, "soLong", 10, 0, 2, -1);
        Check.due(x.soLong(10, 0, 2, 0), 2, "soLong", 10, 0, 2, 0);
        Check.due(x.soLong(3, 1, 2, -1), 1, "soLong", 3, 1, 2, -1);
        Check.due(x.soLong(3, 1, 2, 0), 2, "soLong", 3, 1, 2, 0);
        Check.due(x.soLong(3, 0, 2, -1), 0, "soLong", 3, 0, 2, -1);
        Check.due(x.soLong(10, 6, 6, -1), 0, "soLong", 10, 6, 6, -1);
        Check.due(x.soLong(10, 6, 7, -1), 1, "soLong", 10, 6, 7, -1);
        Check.due(x.soLong(10, 6, 7, 0), 7, "soLong", 10, 6, 7, 0);
        Check.due(x.soLong(10, 1, 2999, -1), 50, "soLong", 10, 1, 2999, -1);
        Check.due(x.soLong(10, 1, 3000, -1), 51, "soLong", 10, 1, 3000, -1);
        Check.due(x.soLong(10, 1, 3000, 50), 3000, "soLong", 10, 1, 3000, 50);
    }

    private static void soLongZero() {
        Check.sentence("ROUND: how many come round (0: it ends).");
        Check.due(x.soLong(10, 0, 3000, -1), 36, "soLong", 10, 0, 3000, -1);
        Check.due(x.soLong(10, 0, 3000, 35), 2560, "soLong", 10, 0, 3000, 35);
        Check.due(x.soLong(2, 0, 3000, -1), 11, "soLong", 2, 0, 3000, -1);
        Check.due(x.soLong(36, 0, 3000, -1), 51, "soLong", 36, 0, 3000, -1);
        // In base 2 nothing goes round by one, in 36 the divisors of 35 do.
        Check.due(x.soLong(2, 1, 3000, -1), 0, "soLong", 2, 1, 3000, -1);
        Check.due(x.soLong(36, 1, 3000, -1), 85, "soLong", 36, 1, 3000, -1);
    }

    private static void lengths() {
        Check.sentence("NONE; BAD (L 0 to 3000).");
        for (int l : new int[] {LEAST, -1, 3001, MOST}) {
            Check.due(x.soLong(10, l, 3000, -1), BAD, "soLong", 10, l, 3000, -1);
            Check.due(x.soLong(10, l, 3000, 0), BAD, "soLong", 10, l, 3000, 0);
        }
        Check.due(x.soLong(10, 3000, 3000, -1), 0, "soLong", 10, 3000, 3000, -1);
        Check.due(x.soLong(10, 3000, 3000, 0), NONE, "soLong", 10, 3000, 3000, 0);
        Check.due(x.soLong(10, 2970, 3000, -1), 1, "soLong, the longest", 10, 2970, 3000, -1);
        Check.due(x.soLong(10, 2970, 3000, 0), 2971, "soLong, the longest", 10, 2970, 3000, 0);
        // L may be above M.
        Check.due(x.soLong(10, 6, 3, -1), 0, "soLong", 10, 6, 3, -1);
    }

    private static void soLongByPlace() {
        Check.sentence("SO LONG: how many (i = -1), the i-th. NONE; BAD");
        for (int i : new int[] {LEAST, -2}) {
            Check.due(x.soLong(10, 6, 100, i), BAD, "soLong", 10, 6, 100, i);
            Check.due(x.soLong(10, 3000, 2, i), BAD, "soLong", 10, 3000, 2, i);
        }
        Check.due(x.soLong(10, 6, 30, -1), 6, "soLong", 10, 6, 30, -1);
        int[] six = {7, 13, 14, 21, 26, 28};
        for (int i = 0; i < six.length; i++) {
            Check.due(x.soLong(10, 6, 30, i), six[i], "soLong", 10, 6, 30, i);
        }
        Check.due(x.soLong(10, 6, 30, 6), NONE, "soLong", 10, 6, 30, 6);
        Check.due(x.soLong(10, 6, 30, MOST), NONE, "soLong", 10, 6, 30, MOST);
    }

    private static void turningWho() {
        Check.sentence("TURNING: the ROUND of N, prime, not dividing b, is N - 1:");
        // {b, n}: no prime; dividing b; a ROUND too short; the least and greatest that go.
        int[][] no = {{10, 9}, {10, 21}, {10, 4}, {10, 2}, {10, 5}, {6, 3}, {36, 2}, {36, 3}, {10, 3}, {10, 11}, {10, 13}, {36, 5}, {36, 7}, {10, 49999},
            {2, 50000}, {3, 49998}};
        for (int[] one : no) {
            Check.due(x.turning(one[0], one[1], 1), NO, "turning", one[0], one[1], 1);
            Check.due(x.turning(one[0], one[1], one[1] - 1), NO, "turning", one[0], one[1], one[1] - 1);
        }
        int[][] yes = {{3, 2}, {35, 2}, {2, 3}, {2, 5}, {10, 7}, {10, 17}, {3, 49999}, {32, 5}};
        for (int[] one : yes) {
            Check.due(x.turning(one[0], one[1], 1), 0, "turning", one[0], one[1], 1);
        }
    }

    private static void turningPlaces() {
        Check.sentence("by how many places k times it begins later (k 1 to N - 1; figures turned to the left); else NO.");
        // 142857, 285714, 428571, 571428, 714285, 857142
        int[] seventh = {0, 2, 1, 4, 5, 3};
        for (int k = 1; k <= 6; k++) {
            Check.due(x.turning(10, 7, k), seventh[k - 1], "turning", 10, 7, k);
        }
        // 0011, 0110, 1001, 1100 in base 2
        int[] fifth = {0, 1, 3, 2};
        for (int k = 1; k <= 4; k++) {
            Check.due(x.turning(2, 5, k), fifth[k - 1], "turning", 2, 5, k);
        }
        Check.due(x.turning(3, 49999, 3), 1, "turning", 3, 49999, 3);
        Check.due(x.turning(3, 49999, 33333), 49997, "turning, one place to the right", 3, 49999, 33333);
    }

    private static void turningTimes() {
        Check.sentence("TURNING by k: places. NO; BAD.");
        for (int n : new int[] {2, 7, 9, 49999, 50000}) {
            for (int k : new int[] {LEAST, -1, 0, n, n + 1, MOST}) {
                Check.due(x.turning(3, n, k), BAD, "turning", 3, n, k);
            }
        }
        Check.due(x.turning(3, 49999, 49998), 24999, "turning", 3, 49999, 49998);
        Check.due(x.turning(3, 9, 8), NO, "turning", 3, 9, 8);
    }

    private static int tower(int n, int... row) {
        long v = 0;
        for (int one : row) {
            v = v << 10 | one;
        }
        return x.tower(n, row.length, v);
    }

    private static void towerOrder() {
        Check.sentence("TOWER of k numbers (1 to 6), ten bits each of v, the first the highest: its rest.");
        Check.due(tower(50000, 2, 3), 8, "tower 2 3");
        Check.due(tower(50000, 3, 2), 9, "tower 3 2");
        // From the top: 2 to the 9, not 8 to the 2.
        Check.due(tower(50000, 2, 3, 2), 512, "tower 2 3 2");
        Check.due(tower(50000, 3, 2, 3), 6561, "tower 3 2 3");
        Check.due(tower(50000, 2, 2, 2, 2), 15536, "tower 2 2 2 2");
        Check.due(x.tower(1000, 2, 2L << 10 | 3), 8, "tower", 1000, 2);
        Check.due(x.tower(1000, 2, 999L << 10 | 1), 999, "tower", 1000, 2);
        Check.due(x.tower(1000, 2, 1L << 10 | 999), 1, "tower", 1000, 2);
    }

    private static void towerLengths() {
        Check.sentence("TOWER: a row of 1 to 6 numbers");
        for (int k : new int[] {LEAST, -1, 0, 7, 8, 64, MOST}) {
            Check.due(x.tower(7, k, 1), BAD, "tower", 7, k, 1);
            Check.due(x.tower(7, k, 0), BAD, "tower", 7, k, 0);
        }
        Check.due(tower(7, 10), 3, "tower 10");
        Check.due(tower(50000, 7, 1), 7, "tower 7 1");
        Check.due(tower(50000, 7, 1, 9), 7, "tower 7 1 9");
        Check.due(tower(50000, 2, 2, 1, 9), 4, "tower 2 2 1 9");
        Check.due(tower(50000, 2, 3, 2, 1, 9), 512, "tower 2 3 2 1 9");
        Check.due(tower(50000, 2, 3, 2, 1, 9, 9), 512, "tower 2 3 2 1 9 9");
        Check.due(tower(50000, 1, 1, 1, 1, 1, 1), 1, "tower of ones");
        Check.due(tower(50000, 1, 1000, 1000, 1000, 1000, 1000), 1, "tower on one");
        // A seventh number is none, though each of them were right.
        Check.due(x.tower(7, 7, 1L << 60 | 1L << 50 | 1L << 40 | 1L << 30 | 1L << 20 | 1L << 10 | 1), BAD, "tower of seven");
    }

    private static void towerNumbers() {
        Check.sentence("numbers (1 to 1000) a, b, c, ..:");
        for (int k = 1; k <= 6; k++) {
            for (int at = 0; at < k; at++) {
                int[] row = new int[k];
                java.util.Arrays.fill(row, 1);
                for (int wrong : new int[] {0, 1001, 1002, 1023}) {
                    row[at] = wrong;
                    Check.due(tower(7, row), BAD, "tower with one number wrong", k, at, wrong);
                }
                for (int right : new int[] {1, 2, 999, 1000}) {
                    row[at] = right;
                    // Above a one it says nothing.
                    Check.due(tower(50000, row), at == 0 ? right : 1, "tower with one number", k, at, right);
                }
            }
        }
    }

    private static void towerBits() {
        Check.sentence("BAD (one is 0, above 1000; v of more bits).");
        for (int k = 1; k <= 6; k++) {
            long ones = 0;
            for (int at = 0; at < k; at++) {
                ones = ones << 10 | 1;
            }
            Check.due(x.tower(7, k, ones), 1, "tower", 7, k, ones);
            for (int bit = 10 * k; bit < 64; bit++) {
                Check.due(x.tower(7, k, ones | 1L << bit), BAD, "tower of more bits", 7, k, bit);
            }
            Check.due(x.tower(7, k, 0), BAD, "tower", 7, k, 0);
            Check.due(x.tower(7, k, -1), BAD, "tower", 7, k, -1);
            Check.due(x.tower(7, k, Long.MIN_VALUE), BAD, "tower", 7, k, Long.MIN_VALUE);
            Check.due(x.tower(7, k, Long.MAX_VALUE), BAD, "tower", 7, k, Long.MAX_VALUE);
        }
    }

    private static void highTowers() {
        Check.sentence("towers of powers, however high;");
        Check.due(tower(49999, 1000, 1000, 1000, 1000, 1000, 1000), 1000, "tower of 1000s by 49999");
        Check.due(tower(49993, 1000, 1000, 1000, 1000, 1000, 1000), 9510, "tower of 1000s by 49993");
        Check.due(tower(7, 1000, 1000, 1000, 1000, 1000, 1000), 1, "tower of 1000s by 7");
        Check.due(tower(50000, 999, 999, 999, 999, 999, 999), 48999, "tower of 999s");
        Check.due(tower(50000, 2, 2, 2, 2, 2, 2), 28736, "tower of 2s");
        Check.due(tower(50000, 3, 3, 3, 3, 3, 3), 45387, "tower of 3s");
        Check.due(tower(46656, 6, 6, 6, 6, 6, 6), 0, "tower of 6s");
        // Where the exponent is just too small, or just enough, to be swallowed.
        Check.due(tower(32768, 2, 14), 16384, "tower 2 14");
        Check.due(tower(32768, 2, 15), 0, "tower 2 15");
        Check.due(tower(32768, 2, 4, 2), 0, "tower 2 4 2");
        Check.due(tower(50000, 10, 4), 10000, "tower 10 4");
        Check.due(tower(50000, 10, 5), 0, "tower 10 5");
    }
}
