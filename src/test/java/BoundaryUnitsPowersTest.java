/** Promises 2 to 10: each sentence that names a boundary has a test of its own, with answers worked out by hand. */
public final class BoundaryUnitsPowersTest {
    private static final int BAD = PowerRests.BAD, NO = PowerRests.NO, NONE = PowerRests.NONE;
    private static final int LEAST = Integer.MIN_VALUE, MOST = Integer.MAX_VALUE;
    private static final PowerRests x = new PowerRests();

    public static void main(String[] args) {
        divisorsTooSmallOrLarge();
        leastDivisor();
        greatestDivisor();
        restsTooSmallOrLarge();
        firstAndLastRest();
        whoIsUnit();
        unitsByPlace();
        leastExponentAboveZero();
        orderOfNoUnit();
        greatestOrder();
        unitsOfOrder();
        exponentNotLookedAt();
        whoIsMaker();
        makersByPlace();
        exponents();
        zerothPower();
        wrongPowers();
        leastLog();
        noLog();
        degrees();
        rootsByPlace();
        squares();
        runs();
        firstNoSquare();
        whatOfSquares();
        signBounds();
        signOfOne();
        signByPrimes();
        badSign();
        Check.end();
    }

    private static void divisorsTooSmallOrLarge() {
        Check.sentence("By N (2 to 50000) RESTS are 0 to N - 1.");
        for (int n : new int[] {LEAST, -50000, -2, -1, 0, 1, 50001, MOST}) {
            Check.due(x.units(n, -1), BAD, "units", n, -1);
            Check.due(x.units(n, 0), BAD, "units", n, 0);
            for (int a : new int[] {0, 1}) {
                Check.due(x.order(n, a), BAD, "order", n, a);
                Check.due(x.power(n, a, 0), BAD, "power", n, a, 0);
                Check.due(x.log(n, a, 0), BAD, "log", n, a, 0);
                Check.due(x.log(n, 0, a), BAD, "log", n, 0, a);
                Check.due(x.roots(n, a, 1, -1), BAD, "roots", n, a, 1, -1);
            }
            Check.due(x.orders(n, 1, 0), BAD, "orders", n, 1, 0);
            Check.due(x.orders(n, 1, 1), BAD, "orders", n, 1, 1);
            Check.due(x.makers(n, -1), BAD, "makers", n, -1);
            Check.due(x.makers(n, 0), BAD, "makers", n, 0);
            for (int what = 0; what <= 3; what++) {
                Check.due(x.squares(n, what), BAD, "squares", n, what);
            }
        }
    }

    private static void leastDivisor() {
        Check.sentence("By N (2 to 50000)");
        Check.due(x.units(2, -1), 1, "units", 2, -1);
        Check.due(x.units(2, 0), 1, "units", 2, 0);
        Check.due(x.units(2, 1), NONE, "units", 2, 1);
        Check.due(x.order(2, 0), NO, "order", 2, 0);
        Check.due(x.order(2, 1), 1, "order", 2, 1);
        Check.due(x.orders(2, 0, 0), 1, "orders", 2, 0, 0);
        Check.due(x.orders(2, 1, 1), 1, "orders", 2, 1, 1);
        Check.due(x.orders(2, 2, 1), 0, "orders", 2, 2, 1);
        Check.due(x.makers(2, -1), 1, "makers", 2, -1);
        Check.due(x.makers(2, 0), 1, "makers", 2, 0);
        Check.due(x.makers(2, 1), NONE, "makers", 2, 1);
        Check.due(x.power(2, 1, 1000000000000L), 1, "power", 2, 1);
        Check.due(x.power(2, 0, 1000000000000L), 0, "power", 2, 0);
        Check.due(x.log(2, 0, 0), 1, "log", 2, 0, 0);
        Check.due(x.log(2, 0, 1), 0, "log", 2, 0, 1);
        Check.due(x.log(2, 1, 0), NONE, "log", 2, 1, 0);
        Check.due(x.log(2, 1, 1), 0, "log", 2, 1, 1);
        Check.due(x.roots(2, 0, 100, -1), 1, "roots", 2, 0, 100, -1);
        Check.due(x.roots(2, 1, 100, 0), 1, "roots", 2, 1, 100, 0);
        int[] squares = {1, 1, 1, NONE};
        for (int what = 0; what <= 3; what++) {
            Check.due(x.squares(2, what), squares[what], "squares", 2, what);
        }
    }

    private static void greatestDivisor() {
        Check.sentence("By N (2 to 50000)");
        Check.due(x.units(50000, -1), 20000, "units", 50000, -1);
        Check.due(x.units(50000, 0), 1, "units", 50000, 0);
        Check.due(x.units(50000, 19999), 49999, "units", 50000, 19999);
        Check.due(x.units(50000, 20000), NONE, "units", 50000, 20000);
        Check.due(x.order(50000, 49999), 2, "order", 50000, 49999);
        Check.due(x.orders(50000, 0, 0), 2500, "orders", 50000, 0, 0);
        Check.due(x.orders(50000, 2, 1), 7, "orders", 50000, 2, 1);
        Check.due(x.makers(50000, -1), 0, "makers", 50000, -1);
        Check.due(x.makers(50000, 0), NONE, "makers", 50000, 0);
        Check.due(x.power(50000, 49999, 999999999999L), 49999, "power", 50000, 49999);
        Check.due(x.log(50000, 49999, 49999), 1, "log", 50000, 49999, 49999);
        Check.due(x.log(50000, 10, 0), 5, "log", 50000, 10, 0);
        Check.due(x.roots(50000, 49999, 1, 0), 49999, "roots", 50000, 49999, 1, 0);
        Check.due(x.roots(50000, 0, 100, -1), 5000, "roots", 50000, 0, 100, -1);
        Check.due(x.roots(50000, 0, 100, 4999), 49990, "roots", 50000, 0, 100, 4999);
        Check.due(x.squares(50000, 0), 2500, "squares", 50000, 0);
        Check.due(x.squares(50000, 1), 1, "squares", 50000, 1);
        Check.due(x.squares(50000, 2), 1, "squares", 50000, 2);
        Check.due(x.squares(50000, 3), 3, "squares", 50000, 3);
    }

    private static void restsTooSmallOrLarge() {
        Check.sentence("RESTS are 0 to N - 1.");
        for (int n : new int[] {2, 7, 50000}) {
            for (int a : new int[] {LEAST, -n, -1, n, n + 1, MOST}) {
                Check.due(x.order(n, a), BAD, "order", n, a);
                Check.due(x.power(n, a, 0), BAD, "power", n, a, 0);
                Check.due(x.power(n, a, 2), BAD, "power", n, a, 2);
                Check.due(x.log(n, a, 1), BAD, "log", n, a, 1);
                Check.due(x.log(n, 1, a), BAD, "log", n, 1, a);
                Check.due(x.roots(n, a, 2, -1), BAD, "roots", n, a, 2, -1);
            }
        }
    }

    private static void firstAndLastRest() {
        Check.sentence("RESTS are 0 to N - 1.");
        for (int n : new int[] {3, 7, 12, 50000}) {
            Check.due(x.order(n, 0), NO, "order", n, 0);
            Check.due(x.order(n, n - 1), 2, "order", n, n - 1);
            Check.due(x.power(n, 0, 5), 0, "power", n, 0, 5);
            Check.due(x.power(n, n - 1, 5), n - 1, "power", n, n - 1, 5);
            Check.due(x.log(n, 0, 0), 1, "log", n, 0, 0);
            Check.due(x.log(n, n - 1, n - 1), 1, "log", n, n - 1, n - 1);
            Check.due(x.roots(n, 0, 1, 0), 0, "roots", n, 0, 1, 0);
            Check.due(x.roots(n, n - 1, 1, 0), n - 1, "roots", n, n - 1, 1, 0);
            Check.due(x.units(n, x.units(n, -1) - 1), n - 1, "the last unit", n);
        }
    }

    private static void whoIsUnit() {
        Check.sentence("UNITS are RESTS that have no common divisor above 1 with N; how many, the i-th (rising).");
        int[] twelve = {1, 5, 7, 11};
        for (int i = 0; i < twelve.length; i++) {
            Check.due(x.units(12, i), twelve[i], "units", 12, i);
        }
        Check.due(x.units(12, -1), 4, "units", 12, -1);
        Check.due(x.units(49999, -1), 49998, "units of a prime", 49999, -1);
        Check.due(x.units(32768, -1), 16384, "units", 32768, -1);
        Check.due(x.units(30030, -1), 5760, "units", 30030, -1);
        Check.due(x.units(30030, 1), 17, "units", 30030, 1);
    }

    private static void unitsByPlace() {
        Check.sentence("UNITS of N: how many (i = -1), the i-th. NONE; BAD.");
        Check.due(x.units(12, LEAST), BAD, "units", 12, LEAST);
        Check.due(x.units(12, -2), BAD, "units", 12, -2);
        Check.due(x.units(12, 3), 11, "units", 12, 3);
        Check.due(x.units(12, 4), NONE, "units", 12, 4);
        Check.due(x.units(12, MOST), NONE, "units", 12, MOST);
    }

    private static void leastExponentAboveZero() {
        Check.sentence("ORDER of a UNIT: the least e above 0 so that its e-th power has REST 1.");
        for (int n : new int[] {2, 3, 8, 49999, 50000}) {
            Check.due(x.order(n, 1), 1, "order", n, 1);
        }
        Check.due(x.order(7, 2), 3, "order", 7, 2);
        Check.due(x.order(7, 3), 6, "order", 7, 3);
        Check.due(x.order(32768, 3), 8192, "order", 32768, 3);
        Check.due(x.order(32768, 16383), 2, "order", 32768, 16383);
        Check.due(x.order(49999, 3), 49998, "order", 49999, 3);
    }

    private static void orderOfNoUnit() {
        Check.sentence("ORDER of a by N. NO: no UNIT; BAD (a no REST).");
        Check.due(x.order(12, 0), NO, "order", 12, 0);
        Check.due(x.order(12, 2), NO, "order", 12, 2);
        Check.due(x.order(12, 9), NO, "order", 12, 9);
        Check.due(x.order(12, 10), NO, "order", 12, 10);
        Check.due(x.order(50000, 49998), NO, "order", 50000, 49998);
        Check.due(x.order(50000, 49995), NO, "order", 50000, 49995);
        // 12 and 14 would share a divisor with 12, too: they are no RESTS first.
        Check.due(x.order(12, 12), BAD, "order", 12, 12);
        Check.due(x.order(12, 14), BAD, "order", 12, 14);
        Check.due(x.order(12, -2), BAD, "order", 12, -2);
    }

    private static void greatestOrder() {
        Check.sentence("GREATEST: the greatest ORDER;");
        int[][] due = {{2, 1}, {3, 2}, {4, 2}, {5, 4}, {6, 2}, {8, 2}, {16, 4}, {24, 2}, {15, 4}, {63, 6}, {32768, 8192}, {30030, 60}};
        for (int[] one : due) {
            Check.due(x.orders(one[0], 1, 0), one[1], "orders", one[0], 1, 0);
        }
    }

    private static void unitsOfOrder() {
        Check.sentence("OF ORDER e: how many UNITS have it.");
        int[] seven = {1, 1, 2, 0, 0, 2, 0};
        for (int e = 1; e <= seven.length; e++) {
            Check.due(x.orders(7, e, 1), seven[e - 1], "orders", 7, e, 1);
        }
        Check.due(x.orders(8, 1, 1), 1, "orders", 8, 1, 1);
        Check.due(x.orders(8, 2, 1), 3, "orders", 8, 2, 1);
        Check.due(x.orders(8, 4, 1), 0, "orders", 8, 4, 1);
        Check.due(x.orders(49999, 49998, 1), 15360, "orders", 49999, 49998, 1);
    }

    private static void exponentNotLookedAt() {
        Check.sentence("GREATEST (what = 0), how many UNITS are of ORDER e (1; else e is not looked at). BAD (e 1 to 50000).");
        for (int e : new int[] {LEAST, -1, 0, 1, 50000, 50001, MOST}) {
            Check.due(x.orders(7, e, 0), 6, "orders", 7, e, 0);
            for (int what : new int[] {LEAST, -1, 2, MOST}) {
                Check.due(x.orders(7, e, what), BAD, "orders", 7, e, what);
            }
        }
        for (int e : new int[] {LEAST, -1, 0, 50001, MOST}) {
            Check.due(x.orders(7, e, 1), BAD, "orders", 7, e, 1);
        }
        Check.due(x.orders(7, 1, 1), 1, "orders", 7, 1, 1);
        Check.due(x.orders(7, 50000, 1), 0, "orders", 7, 50000, 1);
        Check.due(x.orders(50000, 50000, 1), 0, "orders", 50000, 50000, 1);
    }

    private static void whoIsMaker() {
        Check.sentence("MAKERS: UNITS whose powers are all UNITS (ORDER is how many UNITS there are): how many, the i-th.");
        int[][] some = {{2, 1}, {3, 2}, {4, 3}, {6, 5}, {7, 3, 5}, {9, 2, 5}, {10, 3, 7}, {18, 5, 11}};
        for (int[] one : some) {
            Check.due(x.makers(one[0], -1), one.length - 1, "makers", one[0], -1);
            for (int i = 1; i < one.length; i++) {
                Check.due(x.makers(one[0], i - 1), one[i], "makers", one[0], i - 1);
            }
        }
        for (int n : new int[] {8, 12, 15, 16, 20, 24, 32768, 30030}) {
            Check.due(x.makers(n, -1), 0, "makers", n, -1);
            Check.due(x.makers(n, 0), NONE, "makers", n, 0);
        }
    }

    private static void makersByPlace() {
        Check.sentence("MAKERS: how many (i = -1), the i-th. NONE; BAD.");
        Check.due(x.makers(7, LEAST), BAD, "makers", 7, LEAST);
        Check.due(x.makers(7, -2), BAD, "makers", 7, -2);
        Check.due(x.makers(8, -2), BAD, "makers", 8, -2);
        Check.due(x.makers(7, 0), 3, "makers", 7, 0);
        Check.due(x.makers(7, 1), 5, "makers", 7, 1);
        Check.due(x.makers(7, 2), NONE, "makers", 7, 2);
        Check.due(x.makers(7, MOST), NONE, "makers", 7, MOST);
        Check.due(x.makers(49999, 15360), NONE, "makers", 49999, 15360);
    }

    private static void exponents() {
        Check.sentence("POWER of a REST, e 0 to 1000000000000 (10 to the 12;");
        // By 7 powers go round after 6, by 5 after 4; 10 to the 12 is 4 by 6 and 0 by 4.
        Check.due(x.power(7, 3, 1000000000000L), 4, "power", 7, 3, 1000000000000L);
        Check.due(x.power(7, 3, 999999999999L), 6, "power", 7, 3, 999999999999L);
        Check.due(x.power(5, 2, 1000000000000L), 1, "power", 5, 2, 1000000000000L);
        Check.due(x.power(7, 3, 1000000000001L), BAD, "power", 7, 3, 1000000000001L);
        Check.due(x.power(7, 3, Long.MAX_VALUE), BAD, "power", 7, 3, Long.MAX_VALUE);
        Check.due(x.power(7, 3, -1), BAD, "power", 7, 3, -1);
        Check.due(x.power(7, 3, Long.MIN_VALUE), BAD, "power", 7, 3, Long.MIN_VALUE);
        // An exponent is a long: what only its lowest 32 bits say is another power.
        Check.due(x.power(7, 3, 1L << 32), 4, "power", 7, 3, 1L << 32);
    }

    private static void zerothPower() {
        Check.sentence("the 0th is 1, by N).");
        for (int n : new int[] {2, 3, 12, 50000}) {
            Check.due(x.power(n, 0, 0), 1, "power", n, 0, 0);
            Check.due(x.power(n, 1, 0), 1, "power", n, 1, 0);
            Check.due(x.power(n, n - 1, 0), 1, "power", n, n - 1, 0);
            Check.due(x.power(n, 0, 1), 0, "power", n, 0, 1);
        }
    }

    private static void wrongPowers() {
        Check.sentence("`int power(int n, int a, long e)`: POWER. BAD.");
        Check.due(x.power(1, 0, 0), BAD, "power", 1, 0, 0);
        Check.due(x.power(50001, 0, 0), BAD, "power", 50001, 0, 0);
        Check.due(x.power(7, -1, 0), BAD, "power", 7, -1, 0);
        Check.due(x.power(7, 7, 0), BAD, "power", 7, 7, 0);
        Check.due(x.power(7, 6, -1), BAD, "power", 7, 6, -1);
    }

    private static void leastLog() {
        Check.sentence("LOG of b to a (RESTS): the least e of 0 or more so that the e-th power of a is b; none.");
        for (int n : new int[] {2, 3, 8, 12, 50000}) {
            for (int a : new int[] {0, 1, n - 1}) {
                Check.due(x.log(n, a, 1), 0, "log", n, a, 1);
            }
            Check.due(x.log(n, 0, 0), 1, "log", n, 0, 0);
        }
        // The powers of 2 by 12 are 1, 2, 4, 8, 4, 8, ..
        Check.due(x.log(12, 2, 2), 1, "log", 12, 2, 2);
        Check.due(x.log(12, 2, 4), 2, "log", 12, 2, 4);
        Check.due(x.log(12, 2, 8), 3, "log", 12, 2, 8);
        Check.due(x.log(32768, 2, 0), 15, "log", 32768, 2, 0);
        // The last of all powers: 3 makes all units by 49999, and its last power ahead of 1 is 1 by 3.
        Check.due(x.log(49999, 3, 16667 + 16666), 49997, "log", 49999, 3, 33333);
    }

    private static void noLog() {
        Check.sentence("LOG of b to a. NONE; BAD.");
        Check.due(x.log(12, 2, 0), NONE, "log", 12, 2, 0);
        Check.due(x.log(12, 2, 3), NONE, "log", 12, 2, 3);
        Check.due(x.log(7, 1, 2), NONE, "log", 7, 1, 2);
        Check.due(x.log(7, 0, 2), NONE, "log", 7, 0, 2);
        Check.due(x.log(7, 3, 0), NONE, "log", 7, 3, 0);
        Check.due(x.log(49999, 3, 0), NONE, "log", 49999, 3, 0);
        Check.due(x.log(7, 7, 1), BAD, "log", 7, 7, 1);
        Check.due(x.log(7, 1, 7), BAD, "log", 7, 1, 7);
        Check.due(x.log(7, -1, 1), BAD, "log", 7, -1, 1);
        Check.due(x.log(7, 1, -1), BAD, "log", 7, 1, -1);
    }

    private static void degrees() {
        Check.sentence("ROOTS of a RESTS of degree e (1 to 100): RESTS whose e-th power it is: how many, the i-th.");
        for (int e : new int[] {LEAST, -1, 0, 101, MOST}) {
            Check.due(x.roots(7, 1, e, -1), BAD, "roots", 7, 1, e, -1);
            Check.due(x.roots(7, 1, e, 0), BAD, "roots", 7, 1, e, 0);
        }
        Check.due(x.roots(7, 5, 1, -1), 1, "roots", 7, 5, 1, -1);
        Check.due(x.roots(7, 5, 1, 0), 5, "roots", 7, 5, 1, 0);
        // 100 is 4 by 6, and the 4th power of 3 and of 4 is 4 by 7.
        Check.due(x.roots(7, 4, 100, -1), 2, "roots", 7, 4, 100, -1);
        Check.due(x.roots(7, 4, 100, 0), 3, "roots", 7, 4, 100, 0);
        Check.due(x.roots(7, 4, 100, 1), 4, "roots", 7, 4, 100, 1);
        Check.due(x.roots(101, 1, 100, -1), 100, "roots", 101, 1, 100, -1);
        Check.due(x.roots(101, 1, 99, -1), 1, "roots", 101, 1, 99, -1);
        // 0 is a RESTS' power as well, and not only its own.
        Check.due(x.roots(7, 0, 2, -1), 1, "roots", 7, 0, 2, -1);
        Check.due(x.roots(7, 0, 2, 0), 0, "roots", 7, 0, 2, 0);
        Check.due(x.roots(8, 0, 2, -1), 2, "roots", 8, 0, 2, -1);
        Check.due(x.roots(8, 0, 2, 1), 4, "roots", 8, 0, 2, 1);
    }

    private static void rootsByPlace() {
        Check.sentence("ROOTS of degree e: how many (i = -1), the i-th. NONE; BAD.");
        Check.due(x.roots(7, 3, 2, -1), 0, "roots", 7, 3, 2, -1);
        Check.due(x.roots(7, 3, 2, 0), NONE, "roots", 7, 3, 2, 0);
        int[] ofOne = {1, 3, 5, 7};
        for (int i = 0; i < ofOne.length; i++) {
            Check.due(x.roots(8, 1, 2, i), ofOne[i], "roots", 8, 1, 2, i);
        }
        Check.due(x.roots(8, 1, 2, 4), NONE, "roots", 8, 1, 2, 4);
        Check.due(x.roots(8, 1, 2, MOST), NONE, "roots", 8, 1, 2, MOST);
        Check.due(x.roots(8, 1, 2, -2), BAD, "roots", 8, 1, 2, -2);
        Check.due(x.roots(8, 1, 2, LEAST), BAD, "roots", 8, 1, 2, LEAST);
        Check.due(x.roots(7, 3, 2, -2), BAD, "roots", 7, 3, 2, -2);
    }

    private static void squares() {
        Check.sentence("SQUARES: UNITS that are the square of some;");
        // By 15 the squares of RESTS are 0, 1, 4, 6, 9, 10, but only 1 and 4 are UNITS.
        int[][] due = {{2, 1}, {3, 1}, {4, 1}, {5, 2}, {7, 3}, {8, 1}, {15, 2}, {24, 1}, {49999, 24999}};
        for (int[] one : due) {
            Check.due(x.squares(one[0], 0), one[1], "squares", one[0], 0);
        }
    }

    private static void runs() {
        Check.sentence("a RUN: UNITS that are SQUARES, one behind the other (each 1 more): the longest, where it begins first;");
        // {N, the longest, where it begins}: 5 has 1 and 4; 13 has 3 4 ahead of 9 10; 15 has 9 10, but no UNITS;
        // 17 has 1 2, 8 9 and 15 16, which do not go on at 1; 23 has 1 to 4 and 12 13; 19 has 4 to 7.
        int[][] due = {{2, 1, 1}, {3, 1, 1}, {5, 1, 1}, {7, 2, 1}, {13, 2, 3}, {15, 1, 1}, {17, 2, 1}, {19, 4, 4}, {23, 4, 1}};
        for (int[] one : due) {
            Check.due(x.squares(one[0], 1), one[1], "squares", one[0], 1);
            Check.due(x.squares(one[0], 2), one[2], "squares", one[0], 2);
        }
    }

    private static void firstNoSquare() {
        Check.sentence("the first UNIT that is no SQUARE; none.");
        int[][] due = {{2, NONE}, {3, 2}, {4, 3}, {5, 2}, {6, 5}, {7, 3}, {8, 3}, {12, 5}, {24, 5}, {15, 2}, {30, 7}, {23, 5}};
        for (int[] one : due) {
            Check.due(x.squares(one[0], 3), one[1], "squares", one[0], 3);
        }
    }

    private static void whatOfSquares() {
        Check.sentence("SQUARES: how many (what = 0), the longest RUN (1), where it begins first (2), the first UNIT that is none (3; NONE). BAD.");
        int[] nineteen = {9, 4, 4, 2};
        for (int what = 0; what < 4; what++) {
            Check.due(x.squares(19, what), nineteen[what], "squares", 19, what);
        }
        for (int what : new int[] {LEAST, -1, 4, MOST}) {
            Check.due(x.squares(19, what), BAD, "squares", 19, what);
            Check.due(x.squares(2, what), BAD, "squares", 2, what);
        }
    }

    private static void signBounds() {
        Check.sentence("SIGN of a (0 to 1000000) by an odd m (1 to 99999):");
        Check.due(x.sign(0, 99999), 0, "sign", 0, 99999);
        Check.due(x.sign(1, 99999), 1, "sign", 1, 99999);
        Check.due(x.sign(1000000, 3), 1, "sign", 1000000, 3);
        Check.due(x.sign(1000000, 99999), 1, "sign", 1000000, 99999);
        Check.due(x.sign(999999, 5), 1, "sign", 999999, 5);
        // By 99991, a prime that is 7 by 8, 2 is a square and the last rest none.
        Check.due(x.sign(2, 99991), 1, "sign", 2, 99991);
        Check.due(x.sign(99990, 99991), -1, "sign", 99990, 99991);
        Check.due(x.sign(99991, 99991), 0, "sign", 99991, 99991);
    }

    private static void signOfOne() {
        Check.sentence("(1 for m 1).");
        for (int a : new int[] {0, 1, 2, 999999, 1000000}) {
            Check.due(x.sign(a, 1), 1, "sign", a, 1);
        }
    }

    private static void signByPrimes() {
        Check.sentence("the product over all primes p of m, each as often as it divides m, of: 0, if p divides a, 1, if a is a square by p, else -1");
        int[] three = {0, 1, -1};
        int[] seven = {0, 1, 1, -1, 1, -1, -1};
        for (int a = 0; a <= 1000; a++) {
            Check.due(x.sign(a, 3), three[a % 3], "sign", a, 3);
            Check.due(x.sign(a, 9), three[a % 3] * three[a % 3], "sign", a, 9);
            Check.due(x.sign(a, 27), three[a % 3], "sign", a, 27);
            Check.due(x.sign(a, 7), seven[a % 7], "sign", a, 7);
            Check.due(x.sign(a, 21), three[a % 3] * seven[a % 7], "sign", a, 21);
            Check.due(x.sign(a, 63), three[a % 3] * three[a % 3] * seven[a % 7], "sign", a, 63);
        }
        // 8 is a square neither by 3 nor by 5, and yet the sign is 1.
        Check.due(x.sign(8, 15), 1, "sign", 8, 15);
        Check.due(x.sign(2, 59049), 1, "sign", 2, 59049);
        Check.due(x.sign(2, 19683), -1, "sign", 2, 19683);
    }

    private static void badSign() {
        Check.sentence("SIGN. BAD answers -100.");
        for (int a : new int[] {LEAST, -1, 1000001, MOST}) {
            Check.due(x.sign(a, 1), -100, "sign", a, 1);
            Check.due(x.sign(a, 7), -100, "sign", a, 7);
            Check.due(x.sign(a, 99999), -100, "sign", a, 99999);
        }
        for (int m : new int[] {LEAST, -99999, -7, -2, -1, 0, 2, 4, 99998, 100000, 100001, MOST}) {
            Check.due(x.sign(0, m), -100, "sign", 0, m);
            Check.due(x.sign(1, m), -100, "sign", 1, m);
        }
    }
}
