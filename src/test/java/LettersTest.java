import java.util.List;

/** Promises 29 to 31. */
public final class LettersTest {
    private static final int BAD = PowerRests.BAD, NO = PowerRests.NO, NONE = PowerRests.NONE;
    private static final PowerRests x = new PowerRests();

    public static void main(String[] args) {
        List<Integer> primes = Plain.those(2, 23, Plain::prime);
        for (int p : primes) {
            for (int q : primes) {
                for (int e = 1; e <= 40 && p != q; e++) {
                    keys(p, q, e, 1);
                }
            }
        }
        for (int e : new int[] {1, 5, 13, 17, 19405, 99989, 99997, 99999, 100000}) {
            keys(199, 197, e, 3511);
            keys(167, 179, e, 2999);
            keys(2, 199, e, 17);
            keys(193, 2, e, 19);
        }
        wrongOnes();
        Check.end();
    }

    private static void keys(int p, int q, int e, int step) {
        int n = p * q;
        if (Plain.gcd((p - 1) * (q - 1), e) != 1) {
            Check.due(x.back(p, q, e), NO, "back", p, q, e);
            Check.due(x.stay(p, q, e, -1), NO, "stay", p, q, e, -1);
            Check.due(x.stay(p, q, e, n), NO, "stay", p, q, e, n);
            Check.due(x.stay(p, q, e, -2), BAD, "stay", p, q, e, -2);
            Check.due(x.rounds(p, q, e, -1), NO, "rounds", p, q, e, -1);
            Check.due(x.rounds(p, q, e, n - 1), NO, "rounds", p, q, e, n - 1);
            Check.due(x.rounds(p, q, e, n), BAD, "rounds", p, q, e, n);
            return;
        }
        int[] becomes = new int[n];
        for (int letter = 0; letter < n; letter++) {
            becomes[letter] = Plain.pow(letter, e, n);
        }
        Check.due(x.back(p, q, e), leastBack(becomes), "back", p, q, e);
        List<Integer> stay = Plain.those(0, n - 1, letter -> becomes[letter] == letter);
        for (int i : new int[] {-2, -1, 0, 1, 2, 3, 7, stay.size() / 2, stay.size() - 1, stay.size(), Integer.MAX_VALUE}) {
            Check.due(x.stay(p, q, e, i), Plain.told(stay, i), "stay", p, q, e, i);
        }
        rounds(p, q, e, becomes, step);
    }

    /** Tries each D on all letters, and gives one up at the first letter that it does not bring back. */
    private static int leastBack(int[] becomes) {
        for (int d = 1;; d++) {
            int letter = 0;
            while (letter < becomes.length && Plain.pow(becomes[letter], d, becomes.length) == letter) {
                letter++;
            }
            if (letter == becomes.length) {
                return d;
            }
        }
    }

    private static void rounds(int p, int q, int e, int[] becomes, int step) {
        java.math.BigInteger all = java.math.BigInteger.ONE;
        for (int letter = 0; letter < becomes.length; letter++) {
            int rounds = 1;
            for (int now = becomes[letter]; now != letter; now = becomes[now]) {
                rounds++;
            }
            java.math.BigInteger one = java.math.BigInteger.valueOf(rounds);
            all = all.divide(all.gcd(one)).multiply(one);
            if (letter % step == 0 || letter == becomes.length - 1 || letter == p || letter == q) {
                Check.due(x.rounds(p, q, e, letter), rounds, "rounds", p, q, e, letter);
            }
        }
        Check.due(x.rounds(p, q, e, -1), all.intValueExact(), "rounds", p, q, e, -1);
        Check.due(x.rounds(p, q, e, -2), BAD, "rounds", p, q, e, -2);
        Check.due(x.rounds(p, q, e, p * q), BAD, "rounds", p, q, e, p * q);
    }

    private static void wrongOnes() {
        for (int p : new int[] {Integer.MIN_VALUE, -3, -1, 0, 1, 4, 9, 198, 200, 201, 211, 11, Integer.MAX_VALUE}) {
            all(p, 11, 1);
            all(11, p, 1);
        }
        for (int e : new int[] {Integer.MIN_VALUE, -1, 0, 100001, Integer.MAX_VALUE}) {
            all(3, 11, e);
        }
        for (int i : new int[] {Integer.MIN_VALUE, -2}) {
            Check.due(x.stay(3, 11, 7, i), BAD, "stay", 3, 11, 7, i);
            Check.due(x.rounds(3, 11, 7, i), BAD, "rounds", 3, 11, 7, i);
            // Of several the first.
            Check.due(x.stay(3, 11, 5, i), BAD, "stay", 3, 11, 5, i);
            Check.due(x.rounds(3, 11, 5, i), BAD, "rounds", 3, 11, 5, i);
        }
        Check.due(x.rounds(3, 11, 7, Integer.MAX_VALUE), BAD, "rounds", 3, 11, 7, Integer.MAX_VALUE);
        Check.due(x.stay(3, 11, 7, 9), NONE, "stay", 3, 11, 7, 9);
        Check.due(x.back(3, 11, 5), NO, "back", 3, 11, 5);
        Check.due(x.back(3, 11, 100000), NO, "back", 3, 11, 100000);
    }

    private static void all(int p, int q, int e) {
        Check.due(x.back(p, q, e), BAD, "back", p, q, e);
        Check.due(x.stay(p, q, e, -1), BAD, "stay", p, q, e, -1);
        Check.due(x.rounds(p, q, e, -1), BAD, "rounds", p, q, e, -1);
    }
}
