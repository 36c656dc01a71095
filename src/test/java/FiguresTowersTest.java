import java.math.BigInteger;
import java.util.List;

/** Promises 24 to 28. */
public final class FiguresTowersTest {
    private static final int BAD = PowerRests.BAD, NO = PowerRests.NO, NONE = PowerRests.NONE;
    private static final PowerRests x = new PowerRests();
    private static long seed = 20261116;

    public static void main(String[] args) {
        for (int b = 2; b <= 36; b++) {
            for (int n = 2; n <= 130; n++) {
                figures(b, n);
            }
            for (int n : new int[] {32768, 50000, 49999, 46656, 49152, 19683, 40960}) {
                figures(b, n);
            }
        }
        for (int b : new int[] {2, 3, 10, 36}) {
            soLong(b);
        }
        turnings();
        towers();
        wrongOnes();
        Check.end();
    }

    /** Divides as one does on paper: {ahead, round}, and the figures into out. */
    private static int[] divide(int b, int n, int[] out) {
        int[] seenAt = new int[n];
        java.util.Arrays.fill(seenAt, -1);
        int rest = 1;
        for (int i = 0;; i++) {
            if (rest == 0) {
                return new int[] {i, 0};
            }
            if (seenAt[rest] >= 0) {
                return new int[] {seenAt[rest], i - seenAt[rest]};
            }
            seenAt[rest] = i;
            out[i] = rest * b / n;
            rest = rest * b % n;
        }
    }

    private static void figures(int b, int n) {
        int[] out = new int[n + 1];
        int[] lengths = divide(b, n, out);
        Check.due(x.broken(b, n, 0), lengths[0], "broken", b, n, 0);
        Check.due(x.broken(b, n, 1), lengths[1], "broken", b, n, 1);
        int whole = lengths[0] + lengths[1];
        for (int i : new int[] {0, 1, 2, 3, 4, 5, 6, 14, 15, 16, 17, whole - 1, whole, whole + 1, 2 * whole, 999999, 1000000}) {
            int due = 0;
            if (i < whole) {
                due = out[i];
            } else if (lengths[1] > 0) {
                due = out[lengths[0] + (i - lengths[0]) % lengths[1]];
            }
            Check.due(x.figure(b, n, i), due, "figure", b, n, i);
        }
    }

    private static void soLong(int b) {
        int[] round = new int[3001];
        for (int n = 2; n <= 3000; n++) {
            round[n] = divide(b, n, new int[n + 1])[1];
        }
        for (int m : new int[] {2, 3, 7, 100, 2999, 3000}) {
            for (int l : new int[] {0, 1, 2, 3, 4, 6, 10, 12, 30, 60, 100, 720, 2998, 2999, 3000}) {
                List<Integer> all = Plain.those(2, m, n -> round[n] == l);
                for (int i : new int[] {-2, -1, 0, 1, 2, all.size() - 1, all.size(), all.size() + 1, Integer.MAX_VALUE}) {
                    Check.due(x.soLong(b, l, m, i), Plain.told(all, i), "soLong", b, l, m, i);
                }
            }
        }
    }

    private static void turnings() {
        for (int b = 2; b <= 36; b++) {
            for (int n = 2; n <= 64; n++) {
                for (int k = 1; k < n; k++) {
                    Check.due(x.turning(b, n, k), turned(b, n, k), "turning", b, n, k);
                }
                Check.due(x.turning(b, n, 0), BAD, "turning", b, n, 0);
                Check.due(x.turning(b, n, n), BAD, "turning", b, n, n);
            }
        }
    }

    /** Multiplies the round's figures by k and looks how far they are turned. */
    private static int turned(int b, int n, int k) {
        int[] out = new int[n + 1];
        int[] lengths = divide(b, n, out);
        if (!Plain.prime(n) || b % n == 0 || lengths[1] != n - 1) {
            return NO;
        }
        BigInteger base = BigInteger.valueOf(b);
        BigInteger once = BigInteger.ZERO;
        for (int i = 0; i < n - 1; i++) {
            once = once.multiply(base).add(BigInteger.valueOf(out[i]));
        }
        BigInteger wanted = once.multiply(BigInteger.valueOf(k));
        BigInteger top = base.pow(n - 2);
        BigInteger now = once;
        for (int places = 0; places < n - 1; places++) {
            if (now.equals(wanted)) {
                return places;
            }
            BigInteger[] parts = now.divideAndRemainder(top);
            now = parts[1].multiply(base).add(parts[0]);
        }
        return -1000;
    }

    private static void towers() {
        int[] divisors = {2, 3, 4, 6, 7, 8, 9, 18, 27, 54, 64, 81, 162, 1000, 1024, 32768, 49152, 49999, 50000, 46656};
        for (int n : divisors) {
            for (int round = 0; round < 400; round++) {
                int k = 1 + next(6);
                int most = round % 2 == 0 ? 4 : 1000;
                int[] row = new int[k];
                long v = 0;
                for (int at = 0; at < k; at++) {
                    row[at] = 1 + next(most);
                    v = v << 10 | row[at];
                }
                Check.due(x.tower(n, k, v), restOf(row, 0, n), "tower", n, k, v);
            }
        }
        smallTowers();
        Check.due(x.tower(7, 1, 1000), 1000 % 7, "tower", 7, 1, 1000);
        for (int k = 1; k <= 6; k++) {
            long ones = 0;
            for (int at = 0; at < k; at++) {
                ones = ones << 10 | 1;
            }
            Check.due(x.tower(50000, k, ones), 1, "tower", 50000, k, ones);
            for (int at = 0; at < k; at++) {
                long without = ones & ~(1L << (10 * at));
                Check.due(x.tower(50000, k, without), BAD, "tower", 50000, k, without);
                Check.due(x.tower(50000, k, without | 1001L << (10 * at)), BAD, "tower above 1000", k, at);
                Check.due(x.tower(50000, k, without | 1000L << (10 * at)), restOf(rowOf(k, without | 1000L << (10 * at)), 0, 50000), "tower 1000", k, at);
            }
            Check.due(x.tower(50000, k, ones | 1L << (10 * k)), BAD, "tower of more bits", k);
            Check.due(x.tower(50000, k, ones | Long.MIN_VALUE), BAD, "tower below 0", k);
            Check.due(x.tower(50000, k, ones | 1L << 60), BAD, "tower of 61 bits", k);
        }
    }

    private static int[] rowOf(int k, long v) {
        int[] row = new int[k];
        for (int at = 0; at < k; at++) {
            row[at] = (int) (v >> (10 * (k - 1 - at)) & 1023);
        }
        return row;
    }

    private static void smallTowers() {
        for (int a = 1; a <= 12; a++) {
            for (int b = 1; b <= 6; b++) {
                for (int c = 1; c <= 5; c++) {
                    BigInteger value = BigInteger.valueOf(a).pow(BigInteger.valueOf(b).pow(c).intValueExact());
                    for (int n : new int[] {2, 12, 97, 720, 49999, 50000}) {
                        long v = ((long) a << 20) + (b << 10) + c;
                        Check.due(x.tower(n, 3, v), value.mod(BigInteger.valueOf(n)).intValue(), "tower", n, 3, v);
                    }
                }
            }
        }
    }

    /** By walking the powers of the number till a rest comes again, so without anybody's theorem. */
    private static int restOf(int[] row, int at, int n) {
        if (at == row.length - 1) {
            return row[at] % n;
        }
        int[] firstAt = new int[n];
        java.util.Arrays.fill(firstAt, -1);
        int[] walked = new int[n + 1];
        int rest = 1 % n;
        int e = 0;
        while (firstAt[rest] < 0) {
            firstAt[rest] = e;
            walked[e] = rest;
            rest = (int) ((long) rest * row[at] % n);
            e++;
        }
        int ahead = firstAt[rest];
        int round = e - ahead;
        long exponent = cut(row, at + 1);
        if (exponent >= CUT) {
            int wanted = restOf(row, at + 1, round);
            exponent = ahead + Math.floorMod(wanted - ahead, round);
        }
        return exponent < e ? walked[(int) exponent] : walked[(int) (ahead + (exponent - ahead) % round)];
    }

    private static final long CUT = 200000;

    private static long cut(int[] row, int from) {
        long value = 1;
        for (int at = row.length - 1; at >= from; at--) {
            value = row[at] == 1 ? 1 : (long) Math.min(CUT, Math.pow(row[at], value));
        }
        return value;
    }

    private static int next(int below) {
        seed = seed * 6364136223846793005L + 1442695040888963407L;
        return (int) Math.floorMod(seed >> 33, (long) below);
    }

    private static void wrongOnes() {
        for (int b : new int[] {Integer.MIN_VALUE, -10, 0, 1, 37, Integer.MAX_VALUE}) {
            Check.due(x.broken(b, 7, 0), BAD, "broken", b, 7, 0);
            Check.due(x.figure(b, 7, 0), BAD, "figure", b, 7, 0);
            Check.due(x.soLong(b, 6, 7, 0), BAD, "soLong", b, 6, 7, 0);
            Check.due(x.turning(b, 7, 1), BAD, "turning", b, 7, 1);
        }
        for (int n : new int[] {Integer.MIN_VALUE, -7, 0, 1, 50001, Integer.MAX_VALUE}) {
            Check.due(x.broken(10, n, 0), BAD, "broken", 10, n, 0);
            Check.due(x.figure(10, n, 0), BAD, "figure", 10, n, 0);
            Check.due(x.turning(10, n, 1), BAD, "turning", 10, n, 1);
            Check.due(x.tower(n, 1, 1), BAD, "tower", n, 1, 1);
        }
        for (int k : new int[] {Integer.MIN_VALUE, -1, 0, 7, Integer.MAX_VALUE}) {
            Check.due(x.tower(7, k, 1), BAD, "tower", 7, k, 1);
        }
        for (int what : new int[] {Integer.MIN_VALUE, -1, 2, Integer.MAX_VALUE}) {
            Check.due(x.broken(10, 7, what), BAD, "broken", 10, 7, what);
        }
        for (int i : new int[] {Integer.MIN_VALUE, -1, 1000001, Integer.MAX_VALUE}) {
            Check.due(x.figure(10, 7, i), BAD, "figure", 10, 7, i);
        }
        for (int l : new int[] {Integer.MIN_VALUE, -1, 3001, Integer.MAX_VALUE}) {
            Check.due(x.soLong(10, l, 7, -1), BAD, "soLong", 10, l, 7, -1);
        }
        for (int m : new int[] {Integer.MIN_VALUE, -1, 0, 1, 3001, Integer.MAX_VALUE}) {
            Check.due(x.soLong(10, 6, m, -1), BAD, "soLong", 10, 6, m, -1);
        }
        Check.due(x.soLong(10, 6, 100, Integer.MIN_VALUE), BAD, "soLong", 10, 6, 100, Integer.MIN_VALUE);
        // Of several the first: a k that is none is BAD, though 9 is no prime.
        Check.due(x.turning(10, 9, 9), BAD, "turning", 10, 9, 9);
        Check.due(x.turning(10, 9, 8), NO, "turning", 10, 9, 8);
        Check.due(x.turning(10, 9, Integer.MAX_VALUE), BAD, "turning", 10, 9, Integer.MAX_VALUE);
        Check.due(x.turning(10, 9, Integer.MIN_VALUE), BAD, "turning", 10, 9, Integer.MIN_VALUE);
        Check.due(x.soLong(10, 5, 30, 0), NONE, "soLong", 10, 5, 30, 0);
    }
}
