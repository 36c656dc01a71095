import java.util.ArrayList;
import java.util.List;
import java.util.regex.Matcher;
import java.util.regex.Pattern;

/** Promises 1, 11 to 19 and 32: texts against a plain model of the document's words. */
public final class RestsTogetherTest {
    private static final int BAD = PowerRests.BAD, NO = PowerRests.NO, FULL = PowerRests.FULL, NONE = PowerRests.NONE;
    private static final Pattern ITEM = Pattern.compile("([lpb])(\\d{1,4}),(\\d{1,4}),(\\d{1,4});|(n)(\\d{1,4}),(\\d{1,4});");
    private static long seed = 7;

    private PowerRests x = new PowerRests();
    private String text = "";
    private List<int[]> laid = new ArrayList<>();
    private int period = 1;

    public static void main(String[] args) {
        new RestsTogetherTest().newObject();
        new RestsTogetherTest().writing();
        new RestsTogetherTest().faults();
        new RestsTogetherTest().wholeTexts();
        new RestsTogetherTest().randomTexts();
        Check.end();
    }

    // ---- the model

    /** The ITEM at a place as {letter, first, second, by, end}; null, if none is right there. */
    private static int[] itemAt(String text, int place) {
        Matcher m = ITEM.matcher(text);
        m.region(place, text.length());
        if (!m.lookingAt()) {
            return null;
        }
        boolean isN = m.group(5) != null;
        int letter = isN ? 'n' : m.group(1).charAt(0);
        int first = isN ? 0 : Integer.parseInt(m.group(2));
        int second = Integer.parseInt(m.group(isN ? 6 : 3));
        int by = Integer.parseInt(m.group(isN ? 7 : 4));
        boolean right = by >= 2 && by <= 200 && second < by;
        right &= letter != 'l' || first < by;
        right &= letter != 'p' || first >= 1 && first <= 9;
        right &= letter != 'b' || first <= second;
        return right ? new int[] {letter, first, second, by, m.end()} : null;
    }

    private static int faultOf(String text) {
        int place = 0;
        for (int k = 0; place < text.length(); k++) {
            int[] item = itemAt(text, place);
            if (item == null || k == 8) {
                return place;
            }
            place = item[4];
        }
        return NONE;
    }

    private static boolean does(int[] item, long number) {
        int rest = (int) (number % item[3]);
        switch (item[0]) {
            case 'l':
                return item[1] * rest % item[3] == item[2];
            case 'p':
                return Plain.pow(rest, item[1], item[3]) == item[2];
            case 'n':
                return rest != item[2];
            default:
                return rest >= item[1] && rest <= item[2];
        }
    }

    /** For each number of the PERIOD, the ITEMS that it does as, as bits. */
    private int[] doneBy() {
        boolean[][] table = new boolean[laid.size()][];
        for (int k = 0; k < laid.size(); k++) {
            table[k] = new boolean[laid.get(k)[3]];
            for (int rest = 0; rest < table[k].length; rest++) {
                table[k][rest] = does(laid.get(k), rest);
            }
        }
        int[] bits = new int[period];
        for (int number = 0; number < period; number++) {
            for (int k = 0; k < table.length; k++) {
                bits[number] |= table[k][number % table[k].length] ? 1 << k : 0;
            }
        }
        return bits;
    }

    private void layModel() {
        if (faultOf(text) != NONE) {
            Check.due(x.lay(), NO, "lay with a fault: " + text);
            return;
        }
        List<int[]> items = new ArrayList<>();
        long multiple = 1;
        for (int place = 0; place < text.length(); place = items.get(items.size() - 1)[4]) {
            items.add(itemAt(text, place));
            long by = items.get(items.size() - 1)[3];
            multiple = multiple / Plain.gcd((int) (multiple % by == 0 ? by : multiple % by), (int) by) * by;
        }
        if (multiple > 2000000) {
            Check.due(x.lay(), NO, "lay too long: " + text);
            return;
        }
        laid = items;
        period = (int) multiple;
        Check.due(x.lay(), period, "lay: " + text);
    }

    // ---- asking

    private void put(String more) {
        int at = 0;
        while (at < more.length()) {
            int n = Math.min(more.length() - at, 1 + next(8));
            long v = next(2) == 0 ? 0 : -1L;
            for (int k = 0; k < n; k++) {
                v = v << 8 | more.charAt(at + k);
            }
            // Bytes of v above the n lowest are not looked at.
            boolean fits = text.length() + n <= 200;
            Check.due(x.write(n, v), fits ? text.length() + n : FULL, "write", n, v);
            text = fits ? text + more.substring(at, at + n) : text;
            Check.due(x.count(0), text.length(), "count", 0);
            at += n;
        }
    }

    private void wipe() {
        Check.due(x.wipe(), text.length(), "wipe");
        text = "";
        Check.due(x.count(0), 0, "count", 0);
    }

    private void compareAll() {
        Check.due(x.fault(), faultOf(text), "fault: " + text);
        layModel();
        compareLaid();
    }

    private void compareLaid() {
        int[] bits = doneBy();
        int all = (1 << laid.size()) - 1;
        List<Integer> left = Plain.those(0, period - 1, number -> bits[number] == all);
        Check.due(x.count(1), laid.size(), "count 1: " + text);
        Check.due(x.count(2), period, "count 2: " + text);
        Check.due(x.left(), left.size(), "left: " + text);
        long some = left.size();
        for (long i : new long[] {0, 1, 2, some / 2, some - 1, some, some + 1, 3 * some + some / 3, 999999999L, 1000000000L}) {
            long due = i < 0 ? BAD : some == 0 ? NONE : i / some * period + left.get((int) (i % some));
            Check.due(x.ith(i), due, "ith: " + text, i);
        }
        for (long n : new long[] {0, 1, 63, 64, 65, period / 2, period - 1, period, period + 1, 5L * period - 1, 999999999999999L, 1000000000000000L}) {
            Check.due(x.from(n), from(left, n), "from: " + text, n);
        }
        for (long n : left.size() > 200 ? left.subList(left.size() - 200, left.size()) : left) {
            Check.due(x.from(n), n, "from: " + text, n);
            Check.due(x.from(n + 1), from(left, n + 1), "from: " + text, n + 1);
        }
        for (int k = -1; k <= laid.size(); k++) {
            Check.due(x.needless(k), needless(bits, k), "needless: " + text, k);
        }
        Check.due(x.lone(), lone(bits), "lone: " + text);
    }

    private long from(List<Integer> left, long n) {
        if (left.isEmpty()) {
            return NONE;
        }
        for (long number : left) {
            if (number >= n % period) {
                return n - n % period + number;
            }
        }
        return n - n % period + period + left.get(0);
    }

    private int needless(int[] bits, int k) {
        if (k < 0 || k >= laid.size()) {
            return BAD;
        }
        int others = (1 << laid.size()) - 1 & ~(1 << k);
        for (int bit : bits) {
            if (bit == others) {
                return 0;
            }
        }
        return 1;
    }

    private int lone(int[] bits) {
        boolean[] met = new boolean[1 << laid.size()];
        for (int bit : bits) {
            met[bit] = true;
        }
        int least = NONE;
        for (int set = met.length - 1; set >= 0; set--) {
            boolean empty = true;
            for (int bit = 0; bit < met.length; bit++) {
                empty &= !met[bit] || (bit & set) != set;
            }
            if (empty && (least == NONE || Integer.bitCount(set) <= Integer.bitCount(least))) {
                least = set;
            }
        }
        return least;
    }

    // ---- the tests

    private void newObject() {
        compareLaid();
        Check.due(x.count(0), 0, "count", 0);
        Check.due(x.left(), 1, "left of nothing");
        Check.due(x.ith(1000000000), 1000000000, "ith of nothing");
        Check.due(x.from(1000000000000000L), 1000000000000000L, "from of nothing");
        for (int what : new int[] {Integer.MIN_VALUE, -1, 3, 4, Integer.MAX_VALUE}) {
            Check.due(x.count(what), BAD, "count", what);
        }
        for (long i : new long[] {Long.MIN_VALUE, -1, 1000000001L, Long.MAX_VALUE}) {
            Check.due(x.ith(i), BAD, "ith", i);
        }
        for (long n : new long[] {Long.MIN_VALUE, -1, 1000000000000001L, Long.MAX_VALUE}) {
            Check.due(x.from(n), BAD, "from", n);
        }
        // Of several the first: BAD, though nothing is LEFT.
        put("l2,1,4;");
        compareAll();
        Check.due(x.ith(-1), BAD, "ith", -1);
        Check.due(x.ith(1000000001L), BAD, "ith", 1000000001L);
        Check.due(x.from(-1), BAD, "from", -1);
        Check.due(x.from(1000000000000001L), BAD, "from", 1000000000000001L);
        Check.due(x.ith(0), NONE, "ith", 0);
        Check.due(x.from(0), NONE, "from", 0);
        for (int k : new int[] {Integer.MIN_VALUE, -1, 1, 8, 32, Integer.MAX_VALUE}) {
            Check.due(x.needless(k), BAD, "needless", k);
        }
        // Another object has nothing of this one's.
        Check.due(new PowerRests().count(2), 1, "count of a new one", 2);
    }

    private void writing() {
        for (int n : new int[] {Integer.MIN_VALUE, -1, 0, 9, Integer.MAX_VALUE}) {
            Check.due(x.write(n, 59), BAD, "write", n, 59);
        }
        Check.due(x.wipe(), 0, "wipe");
        for (int k = 1; k <= 24; k++) {
            Check.due(x.write(8, -1L), 8 * k, "write", k);
        }
        Check.due(x.write(7, -1L), 199, "write", 7);
        Check.due(x.write(2, -1L), FULL, "write", 2);
        Check.due(x.write(8, -1L), FULL, "write", 8);
        Check.due(x.write(9, -1L), BAD, "write", 9);
        Check.due(x.count(0), 199, "count", 0);
        Check.due(x.write(1, -1L), 200, "write", 1);
        Check.due(x.write(1, -1L), FULL, "write", 1);
        Check.due(x.write(0, -1L), BAD, "write", 0);
        Check.due(x.count(0), 200, "count", 0);
        Check.due(x.fault(), 0, "fault");
        Check.due(x.wipe(), 200, "wipe");
        Check.due(x.wipe(), 0, "wipe");
        Check.due(x.fault(), NONE, "fault");
        put("n1,5;");
        compareAll();
        wipe();
        // What is LAID stays, when the TEXT is wiped, and when another TEXT is refused.
        compareLaid();
        put("n1,5;x");
        compareAll();
        wipe();
        put("n1,199;n1,197;n1,193;");
        compareAll();
        wipe();
        compareAll();
    }

    private void faults() {
        String[] texts = {"", ";", "l", "l1", "l1,", "l1,2,3", "l1,2,3;", "l1,2,3;;", "l1,2,3; ", "l1,3,3;", "l3,1,3;", "l0,0,2;", "l1,1,2;",
            "l1,1,1;", "l0,0,1;", "l0,0,0;", "l0,0,201;", "l199,199,200;", "l200,1,200;", "l1,200,200;", "l1,2;", "l1,2,3,4;", "l,1,2;", "l1,,2;",
            "l1,1,;", "l00001,1,2;", "l0001,0001,0002;", "l1,00001,2;", "l1,1,00002;", "l1,1,0200;", "l1,1,2000;", "l9999,1,2;", "l-1,1,2;",
            "l+1,1,2;", "l1 ,1,2;", "L1,1,2;", "p1,1,2;", "p0,1,2;", "p9,1,2;", "p10,1,2;", "p0009,1,2;", "p1,2,2;", "p1,1,201;", "p9,199,200;",
            "p1,2;", "n0,2;", "n1,2;", "n2,2;", "n1,1;", "n0,1;", "n0,201;", "n199,200;", "n1,2,3;", "n1;", "n,2;", "n00000,2;", "n0000,0002;",
            "b0,0,2;", "b0,1,2;", "b1,0,2;", "b1,1,2;", "b0,2,2;", "b2,2,2;", "b0,199,200;", "b199,199,200;", "b0,200,200;", "b0,200,201;", "b0,1;",
            "n0,2;n0,2;n0,2;n0,2;n0,2;n0,2;n0,2;n0,2;", "n0,2;n0,2;n0,2;n0,2;n0,2;n0,2;n0,2;n0,2;n0,2;", "n0,2;n0,2;n0,2;n0,2;n0,2;n0,2;n0,2;n0,2;x",
            "n0,2;n0,2;n0,2;n0,2;n0,2;n0,2;n0,2;n2,2;n0,2;", "n0,2;x", "n0,2;l1,1,2;p3,4,5", "n0,2;l1,1,2;p3,4,5;b3,4,5;", "n0,2;l1,1,2;q3,4,5;b3,4,5;",
            "n0,2;\n", "\0", "n0,2;\0", "n\u00b2,5;", "n0\u00ff2;", "a1,1,2;", "q1,1,2;", "m1,1,2;", "n0:2;", "n0/2;", "n0,2:", "l1;1;2;", "l1,1;2;"};
        for (String one : texts) {
            put(one);
            compareAll();
            wipe();
        }
        // 200 bytes of eight right ITEMS with leading zeros do not fit more than 16 each, but a ninth begins behind.
        put("l0001,0001,0002;".repeat(8));
        compareAll();
        put("n");
        Check.due(x.fault(), 128, "fault of the ninth");
        compareAll();
    }

    private void wholeTexts() {
        String[] texts = {"l1,2,3;l1,3,5;l1,2,7;", "n1,125;n2,126;n3,127;", "l1,5,125;l1,6,126;l1,7,127;", "n0,200;n1,199;n5,50;",
            "b0,0,200;b199,199,200;", "b0,63,64;", "b63,63,64;", "b0,0,64;n0,128;", "b0,0,128;n0,64;", "p2,1,64;p3,1,63;n1,200;",
            "p9,0,128;", "p2,2,3;", "b0,1,4;b1,2,4;b2,3,4;b0,0,2;", "n0,2;n1,2;n0,3;n1,3;n2,3;", "n0,3;n1,3;n2,3;n0,2;n1,2;",
            "l0,0,200;l0,1,200;", "l0,1,2;l0,1,3;", "b0,99,100;l1,7,100;n7,50;n8,50;b7,7,25;p1,7,20;", "p2,0,180;p2,4,168;p3,8,150;n1,192;b5,180,190;",
            "n0,8;n1,9;n2,5;n3,7;n4,11;n5,13;n0,4;n0,2;", "b0,6,8;b0,7,9;b0,3,5;b0,5,7;b0,9,11;b0,11,13;b1,2,3;n5,6;", "b0,99,200;b100,199,200;",
            "b0,0,199;b1,1,193;b2,2,50;", "b0,0,199;b1,1,193;b2,2,50;b3,3,25;", "b0,0,199;b1,1,193;b2,2,50;b3,3,25;b0,3,5;b4,4,5;n2,10;p2,3,4;",
            "l1,1,128;l1,2,125;l1,3,121;", "l1,1,128;l1,2,125;l1,3,127;", "n0,160;n0,125;n0,100;",
            // The first two leave only the last number of their own period: they are no LONE set.
            "l1,198,199;l1,192,193;n198,199;", "b63,63,64;b2,2,3;n191,192;n8,9;",
            // 1999998 is the greatest PERIOD there is, 2000016 the least that is too great.
            "n0,2;n1,27;n2,7;n3,11;n4,13;n5,37;", "l1,0,54;l1,1,77;l1,2,13;l1,3,37;", "n0,16;n1,9;n2,17;n3,19;n4,43;"};
        for (String one : texts) {
            put(one);
            compareAll();
            compareAll();
            wipe();
        }
    }

    private void randomTexts() {
        for (int round = 0; round < 2500; round++) {
            if (round % 8 == 0) {
                x = new PowerRests();
                text = "";
                laid = new ArrayList<>();
                period = 1;
            }
            int items = next(10);
            int most = round % 40 == 0 ? 200 : round % 3 == 0 ? 6 : 14;
            StringBuilder more = new StringBuilder();
            for (int k = 0; k < items; k++) {
                more.append(randomItem(most));
            }
            if (next(6) == 0 && more.length() > 0) {
                more.setCharAt(next(more.length()), "lpnb,;0123456789 x\u00e9".charAt(next(19)));
            }
            put(more.toString());
            compareAll();
            if (next(5) != 0) {
                wipe();
            }
        }
    }

    private static String randomItem(int most) {
        int by = 2 + next(most - 1);
        int low = next(by);
        int high = low + next(by - low);
        switch (next(9)) {
            case 0:
            case 1:
                return "l" + next(by) + "," + next(by) + "," + by + ";";
            case 2:
            case 3:
                return "p" + (1 + next(9)) + "," + next(by) + "," + by + ";";
            case 4:
            case 5:
            case 6:
                return "n" + next(by) + "," + by + ";";
            default:
                return "b" + low + "," + high + "," + by + ";";
        }
    }

    private static int next(int below) {
        seed = seed * 6364136223846793005L + 1442695040888963407L;
        return (int) Math.floorMod(seed >> 33, (long) below);
    }
}
