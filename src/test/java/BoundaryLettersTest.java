/** Promises 29 to 31: each sentence that names a boundary has a test of its own. */
public final class BoundaryLettersTest {
    private static final int BAD = PowerRests.BAD, NO = PowerRests.NO, NONE = PowerRests.NONE;
    private static final int LEAST = Integer.MIN_VALUE, MOST = Integer.MAX_VALUE;
    private static final PowerRests x = new PowerRests();

    public static void main(String[] args) {
        unlikePrimes();
        exponents();
        sharedDivisors();
        leastBack();
        wrongBack();
        staying();
        stayByPlace();
        roundsOfAll();
        roundsOfOne();
        lettersBounds();
        Check.end();
    }

    private static void all(int p, int q, int e, int due) {
        Check.due(x.back(p, q, e), due, "back", p, q, e);
        Check.due(x.stay(p, q, e, -1), due, "stay", p, q, e, -1);
        Check.due(x.stay(p, q, e, 0), due, "stay", p, q, e, 0);
        Check.due(x.rounds(p, q, e, -1), due, "rounds", p, q, e, -1);
        Check.due(x.rounds(p, q, e, 0), due, "rounds", p, q, e, 0);
    }

    private static void unlikePrimes() {
        Check.sentence("N = p q (p, q unlike primes 2 to 199)");
        for (int wrong : new int[] {LEAST, -199, -2, -1, 0, 1, 4, 9, 121, 169, 198, 200, 201, 211, 46337, MOST}) {
            all(wrong, 3, 1, BAD);
            all(3, wrong, 1, BAD);
            all(wrong, 199, 1, BAD);
            all(199, wrong, 1, BAD);
        }
        for (int p : new int[] {2, 3, 11, 197, 199}) {
            all(p, p, 1, BAD);
        }
        // {p, q}: the least and the greatest, either way round.
        int[][] right = {{2, 3}, {3, 2}, {2, 199}, {199, 2}, {197, 199}, {199, 197}};
        for (int[] one : right) {
            int n = one[0] * one[1];
            Check.due(x.back(one[0], one[1], 1), 1, "back", one[0], one[1], 1);
            Check.due(x.stay(one[0], one[1], 1, -1), n, "stay", one[0], one[1], 1, -1);
            Check.due(x.rounds(one[0], one[1], 1, n - 1), 1, "rounds", one[0], one[1], 1, n - 1);
        }
        Check.due(x.back(197, 199, 5), 3881, "back", 197, 199, 5);
        Check.due(x.back(199, 197, 5), 3881, "back", 199, 197, 5);
    }

    private static void exponents() {
        Check.sentence("E (1 to 100000)");
        for (int e : new int[] {LEAST, -7, -1, 0, 100001, MOST}) {
            all(3, 11, e, BAD);
            all(2, 3, e, BAD);
        }
        Check.due(x.back(3, 11, 1), 1, "back", 3, 11, 1);
        // 99999 is 9 by 10; 100000 is even, and p - 1 or q - 1 always is.
        Check.due(x.back(3, 11, 99999), 9, "back", 3, 11, 99999);
        Check.due(x.stay(3, 11, 99999, -1), 9, "stay", 3, 11, 99999, -1);
        Check.due(x.rounds(3, 11, 99999, -1), 2, "rounds", 3, 11, 99999, -1);
        all(3, 11, 100000, NO);
        all(2, 3, 100000, NO);
    }

    private static void sharedDivisors() {
        Check.sentence("that shares no divisor above 1 with (p - 1)(q - 1):");
        all(3, 11, 5, NO);
        all(11, 3, 5, NO);
        all(3, 11, 2, NO);
        all(3, 11, 15, NO);
        all(2, 3, 2, NO);
        all(199, 197, 7, NO);
        all(199, 197, 11, NO);
        all(199, 197, 3, NO);
        // 3 divides neither 2 nor 10, though it is a prime of N.
        Check.due(x.back(3, 11, 3), 7, "back", 3, 11, 3);
        Check.due(x.back(3, 11, 33), 7, "back", 3, 11, 33);
        Check.due(x.back(2, 3, 99999), 1, "back", 2, 3, 99999);
    }

    private static void leastBack() {
        Check.sentence("BACK: the least D above 0 so that the D-th power brings each back.");
        // By 33 powers come again after 10, not only after 20; by 6 after 2; by 3233 after 780.
        int[][] due = {{2, 3, 1, 1}, {2, 3, 5, 1}, {3, 11, 1, 1}, {3, 11, 3, 7}, {3, 11, 7, 3}, {3, 11, 9, 9}, {3, 11, 11, 1}, {3, 11, 13, 7},
            {3, 5, 3, 3}, {3, 5, 5, 1}, {5, 7, 5, 5}, {61, 53, 17, 413}, {61, 53, 2753, 17}, {61, 53, 413, 17}, {2, 199, 5, 119}, {199, 197, 19403, 19403}};
        for (int[] one : due) {
            Check.due(x.back(one[0], one[1], one[2]), one[3], "back", one[0], one[1], one[2]);
        }
    }

    private static void wrongBack() {
        Check.sentence("BACK. NO: E shares a divisor; BAD.");
        Check.due(x.back(3, 11, 5), NO, "back", 3, 11, 5);
        Check.due(x.back(3, 11, 0), BAD, "back", 3, 11, 0);
        Check.due(x.back(4, 11, 5), BAD, "back", 4, 11, 5);
        Check.due(x.back(11, 11, 5), BAD, "back", 11, 11, 5);
        Check.due(x.back(3, 9, 2), BAD, "back", 3, 9, 2);
    }

    private static void staying() {
        Check.sentence("STAY: how many LETTERS become themselves; the i-th.");
        int[] seven = {0, 1, 10, 11, 12, 21, 22, 23, 32};
        Check.due(x.stay(3, 11, 7, -1), 9, "stay", 3, 11, 7, -1);
        for (int i = 0; i < seven.length; i++) {
            Check.due(x.stay(3, 11, 7, i), seven[i], "stay", 3, 11, 7, i);
            Check.due(x.stay(11, 3, 7, i), seven[i], "stay", 11, 3, 7, i);
        }
        // All of them, by E 1 and by E 11, the first that brings each back of itself.
        Check.due(x.stay(3, 11, 1, -1), 33, "stay", 3, 11, 1, -1);
        Check.due(x.stay(3, 11, 11, -1), 33, "stay", 3, 11, 11, -1);
        Check.due(x.stay(199, 197, 1, -1), 39203, "stay", 199, 197, 1, -1);
        Check.due(x.stay(199, 197, 1, 39202), 39202, "stay", 199, 197, 1, 39202);
        Check.due(x.stay(199, 197, 1, 39203), NONE, "stay", 199, 197, 1, 39203);
        Check.due(x.stay(2, 3, 5, -1), 6, "stay", 2, 3, 5, -1);
    }

    private static void stayByPlace() {
        Check.sentence("STAY: how many (i = -1), the i-th. NONE; NO; BAD.");
        Check.due(x.stay(3, 11, 7, 8), 32, "stay", 3, 11, 7, 8);
        Check.due(x.stay(3, 11, 7, 9), NONE, "stay", 3, 11, 7, 9);
        Check.due(x.stay(3, 11, 7, 33), NONE, "stay", 3, 11, 7, 33);
        Check.due(x.stay(3, 11, 7, MOST), NONE, "stay", 3, 11, 7, MOST);
        Check.due(x.stay(3, 11, 5, 0), NO, "stay", 3, 11, 5, 0);
        Check.due(x.stay(3, 11, 7, -2), BAD, "stay", 3, 11, 7, -2);
        Check.due(x.stay(3, 11, 7, LEAST), BAD, "stay", 3, 11, 7, LEAST);
    }

    private static void roundsOfAll() {
        Check.sentence("ROUNDS: after how many times all are back,");
        int[][] due = {{2, 3, 1, 1}, {2, 3, 5, 1}, {3, 11, 1, 1}, {3, 11, 11, 1}, {3, 11, 9, 2}, {3, 11, 7, 4}, {3, 11, 3, 4}, {61, 53, 17, 12},
            {199, 197, 1, 1}, {199, 197, 5, 210}, {199, 197, 19403, 2}, {199, 197, 19405, 1}};
        for (int[] one : due) {
            Check.due(x.rounds(one[0], one[1], one[2], -1), one[3], "rounds", one[0], one[1], one[2], -1);
        }
    }

    private static void roundsOfOne() {
        Check.sentence("one LETTER (the least above 0).");
        // A LETTER that stays is back after one time, not after none.
        for (int letter : new int[] {0, 1, 10, 11, 12, 21, 22, 23, 32}) {
            Check.due(x.rounds(3, 11, 7, letter), 1, "rounds", 3, 11, 7, letter);
        }
        // 2 becomes 29, 17, 8 and 2 again; 3 (which shares 3 with 33) 9, 15, 27 and 3; 11 stays.
        Check.due(x.rounds(3, 11, 7, 2), 4, "rounds", 3, 11, 7, 2);
        Check.due(x.rounds(3, 11, 7, 3), 4, "rounds", 3, 11, 7, 3);
        for (int letter = 0; letter < 33; letter++) {
            Check.due(x.rounds(3, 11, 11, letter), 1, "rounds", 3, 11, 11, letter);
        }
        Check.due(x.rounds(199, 197, 19403, 2), 2, "rounds", 199, 197, 19403, 2);
    }

    private static void lettersBounds() {
        Check.sentence("ROUNDS of all (letter = -1), of a LETTER. NO; BAD.");
        int[][] keys = {{2, 3, 5}, {3, 11, 7}, {199, 197, 5}};
        for (int[] key : keys) {
            int n = key[0] * key[1];
            for (int letter : new int[] {LEAST, -n, -2, n, n + 1, MOST}) {
                Check.due(x.rounds(key[0], key[1], key[2], letter), BAD, "rounds", key[0], key[1], key[2], letter);
            }
            Check.due(x.rounds(key[0], key[1], key[2], 0), 1, "rounds", key[0], key[1], key[2], 0);
            Check.due(x.rounds(key[0], key[1], key[2], n - 1), 1, "rounds", key[0], key[1], key[2], n - 1);
        }
        Check.due(x.rounds(3, 11, 5, 0), NO, "rounds", 3, 11, 5, 0);
        Check.due(x.rounds(3, 11, 5, 32), NO, "rounds", 3, 11, 5, 32);
        Check.due(x.rounds(3, 11, 5, -1), NO, "rounds", 3, 11, 5, -1);
    }
}
