/** Rests of powers. What each call promises stands in ../shared/DOC.md. */
public final class PowerRests {
    public static final int BAD = -1, NO = -2, FULL = -3, NONE = -4;

    private static final int MOST_N = 50000;
    private static final int MOST_ODD = 50001;
    private static final int MOST_FALSE = 5000;
    private static final int MOST_SO_LONG = 3000;
    private static final int MOST_BASE = 36;
    private static final int MOST_PERIOD = 2000000;
    private static final int MOST_PRIME = 199;
    private static final int NO_SIGN = -100;

    // A tower's exponents are told exactly below this; it only has to be above every power of a prime in N.
    private static final long HIGH = 1000000;

    private final Factors ofN = new Factors();
    private final Factors ofOrder = new Factors();
    private final Marks marks = new Marks();
    private final Text text = new Text();
    private final Item reader = new Item();
    private final Laid laid = new Laid();

    // By what each number of a tower is told: N, how many units that has, how many units that has, ..
    private final int[] sizes = new int[7];

    // All that look strongly prime to 2 up to MOST_ODD (there are 9): found once, when first asked for.
    private final int[] liarsToTwo = new int[16];
    private int liars;
    private boolean liarsKnown;

    public PowerRests() {
    }

    // ---- units, powers

    public int units(int n, int i) {
        if (!isDivisor(n) || i < -1) {
            return BAD;
        }
        ofN.split(n);
        if (i == -1) {
            return ofN.unitCount();
        }
        int found = 0;
        for (int a = 1; a < n; a++) {
            if (!ofN.sharesWith(a)) {
                if (found == i) {
                    return a;
                }
                found++;
            }
        }
        return NONE;
    }

    public int order(int n, int a) {
        if (!isDivisor(n) || !isRest(a, n)) {
            return BAD;
        }
        ofN.split(n);
        return ofN.sharesWith(a) ? NO : leastExponent(a, n);
    }

    public int orders(int n, int e, int what) {
        if (!isDivisor(n) || what < 0 || what > 1) {
            return BAD;
        }
        if (what == 1 && (e < 1 || e > MOST_N)) {
            return BAD;
        }
        ofN.split(n);
        return what == 0 ? ofN.greatestOrder() : unitsOfOrder(e);
    }

    public int makers(int n, int i) {
        if (!isDivisor(n) || i < -1) {
            return BAD;
        }
        ofN.split(n);
        int size = ofN.unitCount();
        ofOrder.split(size);
        int many = ofN.greatestOrder() == size ? ofOrder.unitCount() : 0;
        if (i == -1) {
            return many;
        }
        if (i >= many) {
            return NONE;
        }
        markMakers(n, size);
        return marks.pick(i, n);
    }

    public int power(int n, int a, long e) {
        if (!isDivisor(n) || !isRest(a, n) || e < 0 || e > 1000000000000L) {
            return BAD;
        }
        return Numbers.raise(a, e, n);
    }

    public int log(int n, int a, int b) {
        if (!isDivisor(n) || !isRest(a, n) || !isRest(b, n)) {
            return BAD;
        }
        return leastLog(n, a, b);
    }

    public int roots(int n, int a, int e, int i) {
        if (!isDivisor(n) || !isRest(a, n) || e < 1 || e > 100 || i < -1) {
            return BAD;
        }
        int found = 0;
        for (int x = 0; x < n; x++) {
            if (Numbers.raise(x, e, n) == a) {
                if (found == i) {
                    return x;
                }
                found++;
            }
        }
        return i == -1 ? found : NONE;
    }

    public int squares(int n, int what) {
        if (!isDivisor(n) || what < 0 || what > 3) {
            return BAD;
        }
        ofN.split(n);
        markSquares(n);
        return what == 3 ? firstNoSquare(n) : runsOfSquares(n, what);
    }

    public int sign(int a, int m) {
        if (a < 0 || a > 1000000 || m < 1 || m > 99999 || m % 2 == 0) {
            return NO_SIGN;
        }
        ofN.split(m);
        int product = 1;
        for (int k = 0; k < ofN.kinds; k++) {
            int p = ofN.primes[k];
            int one = signByPrime(a, p);
            product *= ofN.times[k] % 2 == 0 ? one * one : one;
        }
        return product;
    }

    // ---- rests together

    public int write(int n, long v) {
        if (n < 1 || n > 8) {
            return BAD;
        }
        if (!text.hasRoom(n)) {
            return FULL;
        }
        text.append(n, v);
        return text.length;
    }

    public int wipe() {
        int was = text.length;
        text.length = 0;
        return was;
    }

    public int fault() {
        int place = 0;
        for (int k = 0; k < Laid.MOST_ITEMS && place < text.length; k++) {
            if (!reader.read(text, place)) {
                return place;
            }
            place = reader.end;
        }
        return place < text.length ? place : NONE;
    }

    public int lay() {
        if (fault() != NONE) {
            return NO;
        }
        int period = periodOfText();
        if (period > MOST_PERIOD) {
            return NO;
        }
        laid.clear();
        int place = 0;
        for (int k = 0; k < Laid.MOST_ITEMS && reader.read(text, place); k++) {
            laid.add(reader);
            place = reader.end;
        }
        laid.close(period);
        return period;
    }

    public int left() {
        return laid.leftMany;
    }

    public long ith(long i) {
        if (i < 0 || i > 1000000000L) {
            return BAD;
        }
        return laid.leftAt(i);
    }

    public long from(long n) {
        if (n < 0 || n > 1000000000000000L) {
            return BAD;
        }
        return laid.leastFrom(n);
    }

    public int needless(int item) {
        if (item < 0 || item >= laid.items) {
            return BAD;
        }
        return laid.saysNothingNew(item) ? 1 : 0;
    }

    public int lone() {
        return laid.leastEmptySet();
    }

    // ---- who looks prime

    public int looks(int n, int a, int what) {
        if (!isOddOne(n) || a < 1 || a >= n || what < 0 || what > 2) {
            return BAD;
        }
        boolean yes;
        if (what == 1) {
            yes = Numbers.looksStrongly(n, a);
        } else {
            yes = Numbers.raise(a, n - 1, n) == 1 && (what == 0 || !Numbers.isPrime(n));
        }
        return yes ? 1 : 0;
    }

    public int lied(int n, int what) {
        if (!isOddOne(n) || what < 0 || what > 2) {
            return BAD;
        }
        if (what == 2) {
            return leastWitness(n);
        }
        ofN.split(n);
        return what == 0 ? looksPrimeTo(n) : looksStronglyTo(n);
    }

    public int falseOnes(int m, int i) {
        if (m < 3 || m > MOST_FALSE || i < -1) {
            return BAD;
        }
        int found = 0;
        for (int n = 3; n <= m; n += 2) {
            if (liesToAll(n)) {
                if (found == i) {
                    return n;
                }
                found++;
            }
        }
        return i == -1 ? found : NONE;
    }

    public int fooled(int k, int m, int i) {
        if (k < 2 || k > 7 || m < 3 || m > MOST_ODD || i < -1) {
            return BAD;
        }
        findLiarsToTwo();
        int found = 0;
        for (int at = 0; at < liars && liarsToTwo[at] <= m; at++) {
            if (looksStronglyUpTo(liarsToTwo[at], k)) {
                if (found == i) {
                    return liarsToTwo[at];
                }
                found++;
            }
        }
        return i == -1 ? found : NONE;
    }

    // ---- figures, towers

    public int broken(int b, int n, int what) {
        if (!isBase(b) || !isDivisor(n) || what < 0 || what > 1) {
            return BAD;
        }
        return what == 0 ? aheadOf(b, n) : roundOf(b, n);
    }

    public int figure(int b, int n, int i) {
        if (!isBase(b) || !isDivisor(n) || i < 0 || i > 1000000) {
            return BAD;
        }
        return b * Numbers.raise(b, i, n) / n;
    }

    public int soLong(int b, int l, int m, int i) {
        if (!isBase(b) || l < 0 || l > MOST_SO_LONG || m < 2 || m > MOST_SO_LONG || i < -1) {
            return BAD;
        }
        ofOrder.split(l);
        int found = 0;
        for (int n = 2; n <= m; n++) {
            if (hasRound(b, n, l)) {
                if (found == i) {
                    return n;
                }
                found++;
            }
        }
        return i == -1 ? found : NONE;
    }

    public int turning(int b, int n, int k) {
        if (!isBase(b) || !isDivisor(n) || k < 1 || k >= n) {
            return BAD;
        }
        if (!Numbers.isPrime(n) || b % n == 0 || roundOf(b, n) != n - 1) {
            return NO;
        }
        return leastLog(n, b % n, k);
    }

    public int tower(int n, int k, long v) {
        if (!isDivisor(n) || k < 1 || k > 6 || v >>> (10 * k) != 0) {
            return BAD;
        }
        for (int at = 0; at < k; at++) {
            int number = towerNumber(at, k, v);
            if (number < 1 || number > 1000) {
                return BAD;
            }
        }
        return towerRest(k, v, n);
    }

    // ---- letters

    public int back(int p, int q, int e) {
        if (!areKeys(p, q, e)) {
            return BAD;
        }
        if (keySharesDivisor(p, q, e)) {
            return NO;
        }
        int turn = Numbers.commonMultiple(p - 1, q - 1);
        ofN.split(turn);
        return Numbers.raise(e, ofN.greatestOrder() - 1, turn);
    }

    public int stay(int p, int q, int e, int i) {
        if (!areKeys(p, q, e) || i < -1) {
            return BAD;
        }
        if (keySharesDivisor(p, q, e)) {
            return NO;
        }
        marks.wipeAll();
        int many = markStaying(p, e, 0) * markStaying(q, e, p);
        if (i == -1) {
            return many;
        }
        return i < many ? stayingLetter(p, q, i) : NONE;
    }

    public int rounds(int p, int q, int e, int letter) {
        if (!areKeys(p, q, e) || letter < -1 || letter >= p * q) {
            return BAD;
        }
        if (keySharesDivisor(p, q, e)) {
            return NO;
        }
        int turn = Numbers.commonMultiple(turnBy(p, letter), turnBy(q, letter));
        return leastExponent(e, turn);
    }

    public int count(int what) {
        switch (what) {
            case 0:
                return text.length;
            case 1:
                return laid.items;
            case 2:
                return laid.period;
            default:
                return BAD;
        }
    }

    // ---- what numbers are told

    private static boolean isDivisor(int n) {
        return n >= 2 && n <= MOST_N;
    }

    private static boolean isRest(int a, int n) {
        return a >= 0 && a < n;
    }

    private static boolean isOddOne(int n) {
        return n >= 3 && n <= MOST_ODD && n % 2 == 1;
    }

    private static boolean isBase(int b) {
        return b >= 2 && b <= MOST_BASE;
    }

    private static boolean areKeys(int p, int q, int e) {
        return isKeyPrime(p) && isKeyPrime(q) && p != q && e >= 1 && e <= 100000;
    }

    private static boolean isKeyPrime(int p) {
        return p <= MOST_PRIME && Numbers.isPrime(p);
    }

    private static boolean keySharesDivisor(int p, int q, int e) {
        return Numbers.commonDivisor((p - 1) * (q - 1), e) != 1;
    }

    // ---- units, powers: how

    /** The ORDER of a UNIT a; n may be 1, where the only rest has order 1. */
    private int leastExponent(int a, int n) {
        ofN.split(n);
        int e = ofN.greatestOrder();
        ofOrder.split(e);
        for (int k = 0; k < ofOrder.kinds; k++) {
            int q = ofOrder.primes[k];
            for (int t = 0; q > 1 && t < ofOrder.times[k] && Numbers.raise(a, e / q, n) == 1; t++) {
                e /= q;
            }
        }
        return e;
    }

    /** Orders part into powers of primes, so the counts for each prime of e multiply. */
    private int unitsOfOrder(int e) {
        ofOrder.split(e);
        int many = 1;
        for (int k = 0; k < ofOrder.kinds; k++) {
            int below = 1;
            for (int t = 1; t < ofOrder.times[k]; t++) {
                below *= ofOrder.primes[k];
            }
            many *= ofN.rootsOfOne(below * ofOrder.primes[k]) - ofN.rootsOfOne(below);
        }
        return many;
    }

    /** Whether the ORDER of a is e, whose primes must stand in ofOrder. */
    private boolean hasOrder(int a, int e, int n) {
        if (Numbers.raise(a, e, n) != 1) {
            return false;
        }
        for (int k = 0; k < ofOrder.kinds; k++) {
            int q = ofOrder.primes[k];
            if (q > 1 && Numbers.raise(a, e / q, n) == 1) {
                return false;
            }
        }
        return true;
    }

    /** Every maker is a power of the first one, with an exponent that shares nothing with the size. */
    private void markMakers(int n, int size) {
        long first = firstMaker(n, size);
        int maker = (int) first;
        marks.wipeAll();
        for (int e = 1; e <= size; e++) {
            if (!ofOrder.sharesWith(e)) {
                marks.put(maker);
            }
            maker = Numbers.rest(maker * first, n);
        }
    }

    private int firstMaker(int n, int size) {
        for (int a = 1; a < n; a++) {
            if (hasOrder(a, size, n)) {
                return a;
            }
        }
        return 1;
    }

    private static int leastLog(int n, int a, int b) {
        long reached = 1;
        for (int e = 0; e < n; e++) {
            if (reached == b) {
                return e;
            }
            reached = Numbers.rest(reached * a, n);
        }
        return NONE;
    }

    private void markSquares(int n) {
        marks.wipeAll();
        // x and n - x have the same square.
        for (long x = 1; 2 * x <= n; x++) {
            marks.put(Numbers.rest(x * x, n));
        }
    }

    private int firstNoSquare(int n) {
        for (int a = 1; a < n; a++) {
            if (!marks.has(a) && !ofN.sharesWith(a)) {
                return a;
            }
        }
        return NONE;
    }

    private int runsOfSquares(int n, int what) {
        int many = 0;
        int run = 0;
        int longest = 0;
        int begin = 0;
        for (int a = 1; a < n; a++) {
            if (marks.has(a) && !ofN.sharesWith(a)) {
                many++;
                run++;
            } else {
                run = 0;
            }
            if (run > longest) {
                longest = run;
                begin = a - run + 1;
            }
        }
        if (what == 0) {
            return many;
        }
        return what == 1 ? longest : begin;
    }

    private static int signByPrime(int a, int p) {
        if (Numbers.rest(a, p) == 0) {
            return 0;
        }
        return Numbers.raise(a, (p - 1) / 2, p) == 1 ? 1 : -1;
    }

    // ---- rests together: how

    /** The PERIOD of a TEXT without FAULT; it stops at the first that is too great. */
    private int periodOfText() {
        int period = 1;
        int place = 0;
        for (int k = 0; k < Laid.MOST_ITEMS && period <= MOST_PERIOD && reader.read(text, place); k++) {
            period = Numbers.commonMultiple(period, reader.by);
            place = reader.end;
        }
        return period;
    }

    // ---- who looks prime: how

    /** By each prime p of n the units go round in one cycle, and only the part of p - 1 meets n - 1. */
    private int looksPrimeTo(int n) {
        int many = 1;
        for (int k = 0; k < ofN.kinds; k++) {
            many *= Numbers.commonDivisor(n - 1, ofN.primes[k] - 1);
        }
        return many;
    }

    /** Rest 1 at d, or rest n - 1 at d, 2 d, ..: by all primes of n at the same place. */
    private int looksStronglyTo(int n) {
        int odd = Numbers.oddPart(n - 1);
        int many = 1;
        int fewestTwos = n;
        for (int k = 0; k < ofN.kinds; k++) {
            int less = ofN.primes[k] - 1;
            many *= Numbers.commonDivisor(odd, Numbers.oddPart(less));
            fewestTwos = Math.min(fewestTwos, Numbers.twosOf(less));
        }
        int ways = 1;
        for (int twos = 0; twos < fewestTwos && twos < 16; twos++) {
            ways += 1 << (twos * ofN.kinds);
        }
        return many * ways;
    }

    private static int leastWitness(int n) {
        // Primes have none, and would be walked through to their end.
        if (Numbers.isPrime(n)) {
            return NONE;
        }
        for (int a = 2; a <= n - 2; a++) {
            if (!Numbers.looksStrongly(n, a)) {
                return a;
            }
        }
        return NONE;
    }

    /** All units have rest 1 at n - 1 just if no prime divides n twice and each p - 1 divides n - 1. */
    private boolean liesToAll(int n) {
        ofN.split(n);
        if (ofN.kinds < 2) {
            return false;
        }
        for (int k = 0; k < ofN.kinds; k++) {
            int less = ofN.primes[k] - 1;
            if (ofN.times[k] > 1 || less < 1 || (n - 1) % less != 0) {
                return false;
            }
        }
        return true;
    }

    private void findLiarsToTwo() {
        if (liarsKnown) {
            return;
        }
        for (int n = 9; n <= MOST_ODD; n += 2) {
            if (Numbers.looksStrongly(n, 2) && !Numbers.isPrime(n) && liars < liarsToTwo.length) {
                liarsToTwo[liars] = n;
                liars++;
            }
        }
        liarsKnown = true;
    }

    private static boolean looksStronglyUpTo(int n, int k) {
        for (int a = 3; a <= k; a++) {
            if (!Numbers.looksStrongly(n, a)) {
                return false;
            }
        }
        return true;
    }

    // ---- figures, towers: how

    /** Figures come ahead till the base's power swallows what n shares with it. */
    private static int aheadOf(int b, int n) {
        int part = partBeside(b, n);
        int shared = part < 1 ? 1 : n / part;
        for (int figures = 0; figures < 32; figures++) {
            if (Numbers.raise(b, figures, shared) == 0) {
                return figures;
            }
        }
        return 32;
    }

    /** What is left of n without the primes of b: it alone makes figures come round. */
    private static int partBeside(int b, int n) {
        int open = n;
        for (int step = 0; step < 32; step++) {
            int shared = Numbers.commonDivisor(open, b);
            if (shared < 2) {
                return open;
            }
            open /= shared;
        }
        return open;
    }

    private int roundOf(int b, int n) {
        int part = partBeside(b, n);
        return part == 1 ? 0 : leastExponent(b, part);
    }

    /** Whether the ROUND is l, whose primes must stand in ofOrder. */
    private boolean hasRound(int b, int n, int l) {
        int part = partBeside(b, n);
        if (part == 1 || l == 0) {
            return part == 1 && l == 0;
        }
        return hasOrder(b, l, part);
    }

    private static int towerNumber(int at, int k, long v) {
        return (int) (v >>> (10 * (k - 1 - at))) & 1023;
    }

    /** From the last number to the first: the rest of what stands above is the next one's exponent. */
    private int towerRest(int k, long v, int n) {
        findSizes(k, n);
        int rest = 1;
        long high = 1;
        for (int at = k - 1; at >= 0 && at + 1 < sizes.length; at--) {
            int number = towerNumber(at, k, v);
            // Powers go round after size steps, once the primes that are shared are used up: so size more.
            long exponent = high < HIGH ? high : (long) rest + sizes[at + 1];
            rest = Numbers.raise(number, exponent, sizes[at]);
            high = powerBelowHigh(number, high);
        }
        return rest;
    }

    /** The rest of a number's power needs its exponent only by how many units there are. */
    private void findSizes(int k, int n) {
        int size = n;
        for (int at = 0; at < k && at < sizes.length; at++) {
            sizes[at] = size;
            ofN.split(size);
            size = ofN.unitCount();
        }
    }

    private static long powerBelowHigh(int number, long e) {
        if (number < 2) {
            return 1;
        }
        long product = 1;
        for (long step = 0; step < e && product < HIGH; step++) {
            product *= number;
        }
        return Math.min(product, HIGH);
    }

    // ---- letters: how

    /** Marks, from the place offset on, the rests by p that become themselves: how many. */
    private int markStaying(int p, int e, int offset) {
        int many = 0;
        for (int x = 0; x < p; x++) {
            if (Numbers.raise(x, e, p) == x) {
                marks.put(offset + x);
                many++;
            }
        }
        return many;
    }

    private int stayingLetter(int p, int q, int i) {
        int found = 0;
        for (int letter = 0; letter < p * q; letter++) {
            if (marks.has(Numbers.rest(letter, p)) && marks.has(p + Numbers.rest(letter, q))) {
                if (found == i) {
                    return letter;
                }
                found++;
            }
        }
        return NONE;
    }

    /** After how many powers a letter comes round by the prime p; each, if letter is -1. */
    private int turnBy(int p, int letter) {
        if (letter == -1) {
            return p - 1;
        }
        int rest = Numbers.rest(letter, p);
        return rest == 0 ? 1 : leastExponent(rest, p);
    }

    /** Functions of numbers alone. */
    private static final class Numbers {
        private Numbers() {
        }

        /** Every divisor that no limit of the document has just looked at is looked at here. */
        static int rest(long a, int n) {
            return n < 1 ? 0 : (int) (a % n);
        }

        static int raise(long base, long exponent, int n) {
            if (n < 1) {
                return 0;
            }
            long product = 1 % n;
            long square = base % n;
            long open = exponent;
            for (int bit = 0; bit < 63 && open > 0; bit++) {
                if ((open & 1) == 1) {
                    product = product * square % n;
                }
                square = square * square % n;
                open >>= 1;
            }
            return (int) product;
        }

        static int commonDivisor(int a, int b) {
            int greater = a;
            int less = b;
            for (int step = 0; step < 64 && less != 0; step++) {
                int rest = greater % less;
                greater = less;
                less = rest;
            }
            return greater;
        }

        static int commonMultiple(int a, int b) {
            int shared = commonDivisor(a, b);
            return shared < 1 ? 0 : a / shared * b;
        }

        static boolean isPrime(int n) {
            for (int p = 2; p < 1000 && p * p <= n; p++) {
                if (n % p == 0) {
                    return false;
                }
            }
            return n > 1;
        }

        static int twosOf(int n) {
            int open = n;
            for (int twos = 0; twos < 31; twos++) {
                if (open % 2 != 0) {
                    return twos;
                }
                open /= 2;
            }
            return 31;
        }

        static int oddPart(int n) {
            return n >> twosOf(n);
        }

        static boolean looksStrongly(int n, int a) {
            int twos = twosOf(n - 1);
            long reached = raise(a, oddPart(n - 1), n);
            if (reached == 1) {
                return true;
            }
            for (int step = 0; step < twos && n > 0; step++) {
                if (reached == n - 1) {
                    return true;
                }
                reached = reached * reached % n;
            }
            return false;
        }
    }

    /** The primes of a number, and what they tell of its units. */
    private static final class Factors {
        // 2 3 5 7 11 13 17 is above every number that is split here: six kinds at most.
        private static final int MOST_KINDS = 8;

        private final int[] primes = new int[MOST_KINDS];
        private final int[] times = new int[MOST_KINDS];
        private int kinds;

        void split(int n) {
            kinds = 0;
            int open = n;
            for (int p = 2; p < 1000 && p * p <= open; p++) {
                if (open % p == 0) {
                    open = takeOut(p, open);
                }
            }
            if (open > 1) {
                takeOut(open, open);
            }
        }

        private int takeOut(int p, int n) {
            int open = n;
            int often = 0;
            for (int step = 0; step < 32 && p > 1 && open % p == 0; step++) {
                open /= p;
                often++;
            }
            if (kinds < MOST_KINDS) {
                primes[kinds] = p;
                times[kinds] = often;
                kinds++;
            }
            return open;
        }

        boolean sharesWith(int a) {
            for (int k = 0; k < kinds; k++) {
                if (Numbers.rest(a, primes[k]) == 0) {
                    return true;
                }
            }
            return false;
        }

        /** How many units there are by the k-th power of a prime. */
        private int unitsAt(int k) {
            int many = primes[k] - 1;
            for (int t = 1; t < times[k]; t++) {
                many *= primes[k];
            }
            return many;
        }

        int unitCount() {
            int many = 1;
            for (int k = 0; k < kinds; k++) {
                many *= unitsAt(k);
            }
            return many;
        }

        /** By 8, 16, .. the units are two cycles: of a sign, and of a fourth of the number. */
        private boolean hasTwoCycles(int k) {
            return primes[k] == 2 && times[k] > 2;
        }

        int greatestOrder() {
            int greatest = 1;
            for (int k = 0; k < kinds; k++) {
                int cycle = hasTwoCycles(k) ? unitsAt(k) / 2 : unitsAt(k);
                greatest = Numbers.commonMultiple(greatest, cycle);
            }
            return greatest;
        }

        /** How many units have rest 1 at their e-th power. */
        int rootsOfOne(int e) {
            int many = 1;
            for (int k = 0; k < kinds; k++) {
                if (hasTwoCycles(k)) {
                    many *= Numbers.commonDivisor(e, 2) * Numbers.commonDivisor(e, unitsAt(k) / 2);
                } else {
                    many *= Numbers.commonDivisor(e, unitsAt(k));
                }
            }
            return many;
        }
    }

    /** Marked rests, each a bit: a row of numbers would be most of what an object takes. */
    private static final class Marks {
        private final long[] bits = new long[MOST_N / 64 + 1];

        void wipeAll() {
            for (int at = 0; at < bits.length; at++) {
                bits[at] = 0;
            }
        }

        void put(int rest) {
            int at = rest >> 6;
            if (at >= 0 && at < bits.length) {
                bits[at] |= 1L << (rest & 63);
            }
        }

        boolean has(int rest) {
            int at = rest >> 6;
            return at >= 0 && at < bits.length && (bits[at] >> (rest & 63) & 1) == 1;
        }

        int pick(int i, int n) {
            int found = 0;
            for (int rest = 0; rest < n; rest++) {
                if (has(rest)) {
                    if (found == i) {
                        return rest;
                    }
                    found++;
                }
            }
            return NONE;
        }
    }

    /** THE TEXT. */
    private static final class Text {
        private final int[] bytes = new int[200];
        private int length;

        boolean hasRoom(int n) {
            return length + n <= bytes.length;
        }

        void append(int n, long v) {
            for (int k = n - 1; k >= 0 && length < bytes.length; k--) {
                bytes[length] = (int) (v >>> (8 * k)) & 255;
                length++;
            }
        }

        /** The byte at a place; -1, where the TEXT has none. */
        int at(int place) {
            return place >= 0 && place < length ? bytes[place] : -1;
        }
    }

    /** One ITEM as it is read. */
    private static final class Item {
        private int letter;
        private int first;
        private int second;
        private int by;
        private int end;

        /** Whether a right ITEM begins at the place; then it is held, and end is behind it. */
        boolean read(Text text, int place) {
            letter = text.at(place);
            end = place + 1;
            first = 0;
            if (letter != 'l' && letter != 'p' && letter != 'n' && letter != 'b') {
                return false;
            }
            if (letter != 'n') {
                first = number(text, ',');
            }
            second = number(text, ',');
            by = number(text, ';');
            return first >= 0 && second >= 0 && by >= 2 && by <= 200 && isInBounds();
        }

        /** The number of one to four figures at end and the byte behind it, both passed; -1, if not so. */
        private int number(Text text, int closing) {
            int value = 0;
            int figures = 0;
            while (figures < 5 && text.at(end) >= '0' && text.at(end) <= '9') {
                value = 10 * value + text.at(end) - '0';
                end++;
                figures++;
            }
            boolean right = figures >= 1 && figures <= 4 && text.at(end) == closing;
            end++;
            return right ? value : -1;
        }

        private boolean isInBounds() {
            switch (letter) {
                case 'l':
                    return first < by && second < by;
                case 'p':
                    return first >= 1 && first <= 9 && second < by;
                case 'n':
                    return second < by;
                default:
                    return first <= second && second < by;
            }
        }

        boolean allows(int rest) {
            switch (letter) {
                case 'l':
                    return by > 0 && first * rest % by == second;
                case 'p':
                    return Numbers.raise(rest, first, by) == second;
                case 'n':
                    return rest != second;
                default:
                    return first <= rest && rest <= second;
            }
        }
    }

    /**
     * The ITEMS that are LAID. Numbers are looked at 64 at a time: block b has the numbers 64 b to
     * 64 b + 63 as bits, and what an ITEM with divisor M allows comes again after M blocks.
     */
    private static final class Laid {
        private static final int MOST_ITEMS = 8;
        private static final int MOST_M = 200;

        private final long[][] words = new long[MOST_ITEMS][MOST_M];
        private final int[] divisors = new int[MOST_ITEMS];
        private final boolean[] allowed = new boolean[MOST_M];
        private int items;
        private int period = 1;
        private int leftMany = 1;

        void clear() {
            items = 0;
        }

        void add(Item item) {
            if (items >= MOST_ITEMS || item.by < 2 || item.by > MOST_M) {
                return;
            }
            for (int rest = 0; rest < item.by; rest++) {
                allowed[rest] = item.allows(rest);
            }
            int rest = 0;
            for (int block = 0; block < item.by; block++) {
                long word = 0;
                for (int bit = 0; bit < 64; bit++) {
                    if (allowed[rest]) {
                        word |= 1L << bit;
                    }
                    rest = rest + 1 < item.by ? rest + 1 : 0;
                }
                words[items][block] = word;
            }
            divisors[items] = item.by;
            items++;
        }

        /** All ITEMS are added: their PERIOD, and how many are LEFT of it. */
        void close(int newPeriod) {
            period = newPeriod;
            leftMany = 0;
            for (int block = 0; 64 * block < period; block++) {
                int within = period - 64 * block;
                long those = within < 64 ? (1L << within) - 1 : -1L;
                leftMany += Long.bitCount(wordOf(block, all()) & those);
            }
        }

        private int all() {
            return (1 << items) - 1;
        }

        /** The numbers of a block that do as the ITEMS of a set (as bits) say. */
        private long wordOf(long block, int set) {
            long word = -1L;
            for (int k = 0; k < items && word != 0; k++) {
                if ((set >> k & 1) == 1) {
                    word &= words[k][Numbers.rest(block, divisors[k])];
                }
            }
            return word;
        }

        private static int lowestBit(long word) {
            return Long.bitCount((word & -word) - 1);
        }

        long leftAt(long i) {
            if (leftMany < 1) {
                return NONE;
            }
            long before = i / leftMany * period;
            int open = (int) (i % leftMany);
            for (int block = 0; 64 * block < period; block++) {
                long word = wordOf(block, all());
                int many = Long.bitCount(word);
                if (open < many) {
                    return before + 64L * block + bitAt(word, open);
                }
                open -= many;
            }
            return NONE;
        }

        private static int bitAt(long word, int i) {
            long open = word;
            for (int k = 0; k < i; k++) {
                open &= open - 1;
            }
            return lowestBit(open);
        }

        long leastFrom(long n) {
            if (leftMany < 1) {
                return NONE;
            }
            long block = n / 64;
            long word = wordOf(block, all()) & -1L << (int) (n % 64);
            for (int step = 0; step < period / 64 + 2 && word == 0; step++) {
                block++;
                word = wordOf(block, all());
            }
            return word == 0 ? NONE : 64 * block + lowestBit(word);
        }

        boolean saysNothingNew(int k) {
            int others = all() & ~(1 << k);
            for (int block = 0; 64 * block < period; block++) {
                if (wordOf(block, others) != wordOf(block, all())) {
                    return false;
                }
            }
            return true;
        }

        int leastEmptySet() {
            if (leftMany > 0) {
                return NONE;
            }
            for (int size = 1; size <= items; size++) {
                for (int set = 1; set <= all(); set++) {
                    if (Integer.bitCount(set) == size && leavesNothing(set)) {
                        return set;
                    }
                }
            }
            return NONE;
        }

        private boolean leavesNothing(int set) {
            int end = periodOf(set);
            for (int block = 0; 64 * block < end; block++) {
                if (wordOf(block, set) != 0) {
                    return false;
                }
            }
            return true;
        }

        private int periodOf(int set) {
            int multiple = 1;
            for (int k = 0; k < items; k++) {
                if ((set >> k & 1) == 1) {
                    multiple = Numbers.commonMultiple(multiple, divisors[k]);
                }
            }
            return multiple;
        }
    }
}
