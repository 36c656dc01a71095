/** Promises 1, 11 to 19 and 32: each sentence that names a boundary has a test of its own. */
public final class BoundaryRestsTogetherTest {
    private static final int BAD = PowerRests.BAD, NO = PowerRests.NO, FULL = PowerRests.FULL, NONE = PowerRests.NONE;
    private static final int LEAST = Integer.MIN_VALUE, MOST = Integer.MAX_VALUE;
    private static final String EIGHT = "n0,8;n1,8;n2,8;n3,8;n4,8;n5,8;n6,8;n7,8;";
    // Only the last number of the PERIOD 199 times 193 times 52 is LEFT.
    private static final String LAST = "b198,198,199;b192,192,193;b51,51,52;";
    private static final long LAST_PERIOD = 1997164;

    public static void main(String[] args) {
        newObject();
        mostBytes();
        howManyBytes();
        highestFirst();
        bytesAbove();
        fullChangesNothing();
        wipe();
        wipedBytesAreGone();
        wipeLeavesLaid();
        letters();
        figures();
        signsBetween();
        endOfLast();
        timesItems();
        powerItems();
        notItems();
        betweenItems();
        whatItemsSay();
        firstFault();
        ninth();
        noFault();
        periods();
        greatestPeriod();
        multiplesThatWrap();
        refusedLay();
        layAgain();
        left();
        ithWithin();
        ithBeyond();
        ithBounds();
        fromBounds();
        fromNoneOrBad();
        needless();
        needlessToEachNumber();
        needlessBounds();
        loneFewest();
        loneNone();
        counts();
        Check.end();
    }

    private static void newObject() {
        Check.sentence("`PowerRests()`: An empty TEXT is LAID.");
        PowerRests x = new PowerRests();
        Check.due(x.left(), 1, "left");
        Check.due(x.ith(0), 0, "ith", 0);
        Check.due(x.ith(1000000000L), 1000000000L, "ith", 1000000000L);
        Check.due(x.from(0), 0, "from", 0);
        Check.due(x.from(1000000000000000L), 1000000000000000L, "from", 1000000000000000L);
        Check.due(x.needless(0), BAD, "needless", 0);
        Check.due(x.lone(), NONE, "lone");
        Check.due(x.count(0), 0, "count", 0);
        Check.due(x.count(1), 0, "count", 1);
        Check.due(x.count(2), 1, "count", 2);
        Check.due(x.fault(), NONE, "fault");
        Check.due(x.lay(), 1, "lay");
        Check.due(x.wipe(), 0, "wipe");
    }

    private static void mostBytes() {
        Check.sentence("A TEXT are bytes (200 at most)");
        for (int n = 1; n <= 8; n++) {
            PowerRests x = new PowerRests();
            int length = 0;
            while (length + n <= 200) {
                length += n;
                Check.due(x.write(n, 0), length, "write", n, 0);
            }
            Check.due(x.write(n, 0), FULL, "write", n, 0);
            Check.due(x.count(0), length, "count", 0);
            Check.due(length < 200 ? x.write(200 - length, 0) : 200, 200, "write the last", n);
            Check.due(x.write(1, 0), FULL, "write", 1, 0);
            Check.due(x.count(0), 200, "count", 0);
        }
    }

    private static void howManyBytes() {
        Check.sentence("n bytes (1 to 8) of v, the highest first, come behind THE TEXT: how long it is. BAD; FULL.");
        PowerRests x = new PowerRests();
        for (int n : new int[] {LEAST, -8, -1, 0, 9, 16, MOST}) {
            Check.due(x.write(n, 59), BAD, "write", n, 59);
            Check.due(x.count(0), 0, "count", 0);
        }
        Check.due(x.write(1, 59), 1, "write", 1, 59);
        Check.due(x.write(8, 59), 9, "write", 8, 59);
        Check.due(x.write(7, 59), 16, "write", 7, 59);
    }

    private static void highestFirst() {
        Check.sentence("of v, the highest first,");
        // The same TEXT in pieces of each size, and all in one.
        for (int n = 1; n <= 8; n++) {
            PowerRests x = new PowerRests();
            String text = "b7,8,15;n7,9;";
            for (int at = 0; at < text.length(); at += n) {
                String part = text.substring(at, Math.min(at + n, text.length()));
                Check.due(x.write(part.length(), Texts.bytes(part)), at + part.length(), "write", n);
            }
            Check.due(x.lay(), 45, "lay in pieces of", n);
            // 7, 8, 22, 23, 37, 38 by 45, without 7 by 9.
            Check.due(x.left(), 5, "left in pieces of", n);
            Check.due(x.ith(0), 8, "ith", 0);
        }
        PowerRests x = new PowerRests();
        Check.due(x.write(8, 0x6e302c323b6e312cL), 8, "write");
        Check.due(x.fault(), 5, "fault");
        Check.due(x.write(2, 0x323b), 10, "write");
        Check.due(x.fault(), NONE, "fault");
    }

    private static void bytesAbove() {
        Check.sentence("n bytes (1 to 8) of v");
        PowerRests x = new PowerRests();
        for (char sign : "n0,2;".toCharArray()) {
            x.write(1, 0x7f6c6c6c6c6c6c00L | sign);
        }
        Check.due(x.lay(), 2, "lay");
        // Bytes from 128 on are no letters, whether the number that has them is below 0 or not.
        Check.due(x.write(1, -1), 6, "write", 1, -1);
        Check.due(x.fault(), 5, "fault");
        x.wipe();
        Check.due(x.write(8, -1L << 56 | Texts.bytes("n0,200;")), 8, "write");
        Check.due(x.fault(), 0, "fault");
        x.wipe();
        for (char sign : "n0,2;".toCharArray()) {
            x.write(1, sign | 128);
        }
        Check.due(x.fault(), 0, "fault");
    }

    private static void fullChangesNothing() {
        Check.sentence("FULL. Of several the first; nothing changes then.");
        PowerRests x = Texts.laid("n0,2;");
        for (int k = 0; k < 24; k++) {
            x.write(8, Texts.bytes("n0,2;n0,"));
        }
        Check.due(x.count(0), 197, "count", 0);
        int fault = x.fault();
        for (int n = 4; n <= 8; n++) {
            Check.due(x.write(n, 0), FULL, "write", n, 0);
            Check.due(x.count(0), 197, "count", 0);
            Check.due(x.fault(), fault, "fault");
            Check.due(x.count(1), 1, "count", 1);
        }
        Check.due(x.write(3, 0), 200, "write", 3, 0);
        Check.due(x.write(0, 0), BAD, "write, BAD ahead of FULL", 0, 0);
        Check.due(x.write(9, 0), BAD, "write, BAD ahead of FULL", 9, 0);
        Check.due(x.wipe(), 200, "wipe");
        Check.due(x.write(8, 0), 8, "write after wipe", 8, 0);
    }

    private static void wipe() {
        Check.sentence("THE TEXT is empty: how long it was.");
        PowerRests x = new PowerRests();
        Check.due(x.wipe(), 0, "wipe");
        Texts.write(x, "n0,2;n");
        Check.due(x.wipe(), 6, "wipe");
        Check.due(x.wipe(), 0, "wipe");
        Check.due(x.count(0), 0, "count", 0);
        Check.due(x.fault(), NONE, "fault");
        Texts.write(x, "n0,3;");
        Check.due(x.count(0), 5, "count", 0);
        Check.due(x.lay(), 3, "lay");
        x.wipe();
        Check.due(x.lay(), 1, "lay of the empty one");
        Check.due(x.count(1), 0, "count", 1);
        Check.due(x.left(), 1, "left");
    }

    private static void wipedBytesAreGone() {
        Check.sentence("THE TEXT is empty: how long it was.");
        // Each beginning of a right TEXT where the whole one stood before: what stood behind is no part of it.
        String whole = "l1,1,2;";
        for (int length = 0; length <= whole.length(); length++) {
            PowerRests x = Texts.with(whole);
            x.wipe();
            Texts.write(x, whole.substring(0, length));
            Check.due(x.fault(), length == 0 || length == whole.length() ? NONE : 0, "fault of the first bytes", length);
        }
        // Nor does a FAULT of before count, wherever in its ITEM it was.
        for (String wrong : new String[] {"x", "l", "lx,1,2;", "l1,x,2;", "l1,1,x;", "p0,0,2;", "b1,0,2;", "l1,1,201;", "n2,2;"}) {
            for (String right : new String[] {"n0,2;", "l1,1,2;", "p1,1,2;", "b0,1,2;"}) {
                PowerRests x = Texts.with(wrong);
                Check.due(x.fault(), 0, "fault of " + wrong);
                x.wipe();
                Texts.write(x, right);
                Check.due(x.fault(), NONE, "fault of " + right + " behind " + wrong);
                Check.due(x.lay(), 2, "lay " + right + " behind " + wrong);
            }
        }
    }

    private static void wipeLeavesLaid() {
        Check.sentence("THE TEXT is empty");
        PowerRests x = Texts.laid("n0,3;");
        x.wipe();
        Check.due(x.count(1), 1, "count", 1);
        Check.due(x.count(2), 3, "count", 2);
        Check.due(x.left(), 2, "left");
        Check.due(x.ith(0), 1, "ith", 0);
        // Nor is laid what is only written.
        Texts.write(x, "n0,5;n0,7;");
        Check.due(x.count(1), 1, "count", 1);
        Check.due(x.left(), 2, "left");
    }

    /** FAULT of a TEXT, and that it is laid just if there is none. */
    private static void fault(String text, int place) {
        PowerRests x = Texts.with(text);
        Check.due(x.fault(), place, "fault of " + text);
        Check.holds((x.lay() == NO) == (place != NONE), "laid or not: " + text);
        Check.due(x.fault(), place, "fault after lay of " + text);
    }

    private static void letters() {
        Check.sentence("ITEMS, each a letter,");
        fault("l1,1,2;p1,1,2;n1,2;b1,1,2;", NONE);
        for (int sign = 0; sign < 256; sign++) {
            boolean isLetter = sign == 'l' || sign == 'p' || sign == 'b';
            fault((char) sign + "1,1,2;", isLetter ? NONE : 0);
            fault("n1,2;" + (char) sign + "1,2;", sign == 'n' ? NONE : 5);
        }
    }

    private static void figures() {
        Check.sentence("numbers (of one to four figures)");
        fault("l,1,2;", 0);
        fault("l1,,2;", 0);
        fault("l1,1,;", 0);
        fault("n,2;", 0);
        fault("n1,;", 0);
        fault("l1,1,2;", NONE);
        fault("l01,001,0002;", NONE);
        fault("l0001,0001,0002;", NONE);
        fault("l00001,1,2;", 0);
        fault("l1,00001,2;", 0);
        fault("l1,1,00002;", 0);
        fault("n00001,5;", 0);
        fault("n1,00005;", 0);
        fault("p0009,0000,0200;", NONE);
        fault("p00009,0,200;", 0);
        fault("b0000,0199,0200;", NONE);
        fault("b00000,199,200;", 0);
        fault("l4294967297,1,2;", 0);
        fault("n0,4294967298;", 0);
        // Leading zeros say no other number.
        Check.due(Texts.with("l0001,0011,0013;").lay(), 13, "lay");
        Check.due(Texts.laid("l0001,0011,0013;").ith(0), 11, "ith", 0);
    }

    private static void signsBetween() {
        Check.sentence("parted by , and a ;");
        for (int sign = 0; sign < 256; sign++) {
            boolean isFigure = sign >= '0' && sign <= '9';
            fault("l1" + (char) sign + "1,2;", sign == ',' ? NONE : 0);
            fault("l1" + (char) sign + "1,1,200;", isFigure ? NONE : 0);
            fault("b0" + (char) sign + "1,200;", sign == ',' ? NONE : 0);
            fault("n0" + (char) sign + "5;", sign == ',' ? NONE : 0);
            // A figure goes on with the number: 5, then as one with two figures.
            fault("n0,5" + (char) sign, sign == ';' ? NONE : 0);
            fault("n0,5" + (char) sign + ";", isFigure ? NONE : sign == ';' ? 5 : 0);
        }
        fault("l1,2;", 0);
        fault("l1,1,2,1;", 0);
        fault("n1,1,2;", 0);
        fault("b1,2;", 0);
        fault("p1,2;", 0);
        fault("n 1,2;", 0);
        fault("n1, 2;", 0);
        fault("n-1,2;", 0);
    }

    private static void endOfLast() {
        Check.sentence("a ; (behind the last one, too):");
        String text = "l1,1,2;n0,3;";
        for (int length = 1; length < text.length(); length++) {
            fault(text.substring(0, length), length < 7 ? 0 : length == 7 ? NONE : 7);
        }
        fault(text, NONE);
        fault(text + ";", 12);
    }

    private static void timesItems() {
        Check.sentence("(M 2 to 200; A, B below it)");
        fault("l0,0,0;", 0);
        fault("l0,0,1;", 0);
        fault("l0,0,2;", NONE);
        fault("l1,1,2;", NONE);
        fault("l2,1,2;", 0);
        fault("l1,2,2;", 0);
        fault("l199,199,200;", NONE);
        fault("l200,199,200;", 0);
        fault("l199,200,200;", 0);
        fault("l0,0,201;", 0);
        fault("l0,0,9999;", 0);
        fault("l9999,0,200;", 0);
        fault("l0,9999,200;", 0);
    }

    private static void powerItems() {
        Check.sentence("x to the E (1 to 9) has rest B by M");
        fault("p0,1,2;", 0);
        fault("p1,1,2;", NONE);
        fault("p9,1,2;", NONE);
        fault("p10,1,2;", 0);
        fault("p9999,1,2;", 0);
        fault("p9,199,200;", NONE);
        fault("p9,200,200;", 0);
        fault("p1,2,2;", 0);
        fault("p1,0,1;", 0);
        fault("p1,0,0;", 0);
        fault("p1,0,201;", 0);
        // E need not be below M.
        fault("p9,0,2;", NONE);
    }

    private static void notItems() {
        Check.sentence("x does not have rest B by M");
        fault("n0,0;", 0);
        fault("n0,1;", 0);
        fault("n0,2;", NONE);
        fault("n1,2;", NONE);
        fault("n2,2;", 0);
        fault("n199,200;", NONE);
        fault("n200,200;", 0);
        fault("n0,201;", 0);
    }

    private static void betweenItems() {
        Check.sentence("(L no more than H, H below M)");
        fault("b0,0,0;", 0);
        fault("b0,0,1;", 0);
        fault("b0,0,2;", NONE);
        fault("b0,1,2;", NONE);
        fault("b1,1,2;", NONE);
        fault("b1,0,2;", 0);
        fault("b0,2,2;", 0);
        fault("b2,2,2;", 0);
        fault("b0,199,200;", NONE);
        fault("b199,199,200;", NONE);
        fault("b199,198,200;", 0);
        fault("b0,200,200;", 0);
        fault("b0,0,201;", 0);
    }

    /** What is LEFT of a PERIOD of up to 16, as bits. */
    private static int leftBits(String text) {
        PowerRests x = Texts.laid(text);
        int bits = 0;
        for (int number = 0; number < x.count(2); number++) {
            bits |= x.from(number) == number ? 1 << number : 0;
        }
        return bits;
    }

    private static void whatItemsSay() {
        Check.sentence("LEFT are numbers 0, 1, .. that do as all ITEMS say:");
        Check.due(leftBits("l0,0,4;"), 0b1111, "0 times anything is 0");
        Check.due(leftBits("l0,3,4;"), 0, "0 times nothing is 3");
        Check.due(leftBits("l2,2,4;"), 0b1010, "2 times 1, 3");
        Check.due(leftBits("l3,1,4;"), 0b1000, "3 times 3");
        Check.due(leftBits("p1,3,4;"), 0b1000, "to the 1");
        Check.due(leftBits("p2,0,4;"), 0b0101, "to the 2");
        Check.due(leftBits("p9,3,5;"), 0b01000, "to the 9");
        Check.due(leftBits("n0,4;"), 0b1110, "not the first");
        Check.due(leftBits("n3,4;"), 0b0111, "not the last");
        Check.due(leftBits("b0,0,4;"), 0b0001, "the first alone");
        Check.due(leftBits("b3,3,4;"), 0b1000, "the last alone");
        Check.due(leftBits("b1,2,4;"), 0b0110, "both ends count");
        Check.due(leftBits("b0,3,4;"), 0b1111, "all");
        Check.due(leftBits("b1,2,4;n0,2;"), 0b0010, "all ITEMS");
        Check.due(leftBits("l1,1,3;l1,3,4;"), 1 << 7, "all ITEMS of unlike M");
    }

    private static void firstFault() {
        Check.sentence("FAULT: the place of the first byte of the first ITEM that is not so;");
        fault("x", 0);
        fault("n0,2;x", 5);
        fault("n0,2;n2,2;x", 5);
        fault("n0,2;l1,1,2;n2,2;n3,2;", 12);
        // The place is the ITEM's first byte, not the byte at which it goes wrong.
        fault("n0,2;l1,1,201;", 5);
        fault("n0,2;l1,1,2", 5);
        fault("n0,2;;", 5);
        fault("n0,2; n0,2;", 5);
        fault("n0,2;\n", 5);
        fault("n0,2;".repeat(7) + "n0,3", 35);
        PowerRests x = new PowerRests();
        for (int k = 0; k < 25; k++) {
            x.write(8, Texts.bytes("l001,001"));
        }
        Check.due(x.fault(), 0, "fault of 200 bytes");
    }

    private static void ninth() {
        Check.sentence("the first ITEM that is not so; the ninth.");
        fault("n0,2;".repeat(8), NONE);
        fault("n0,2;".repeat(9), 40);
        fault("n0,2;".repeat(10), 40);
        fault("n0,2;".repeat(40), 40);
        fault("n0,2;".repeat(8) + "x", 40);
        fault("n0,2;".repeat(8) + "n", 40);
        fault("n0,2;".repeat(7) + "n2,2;n0,2;", 35);
        fault("l0001,0001,0002;".repeat(8), NONE);
        fault("l0001,0001,0002;".repeat(9), 128);
        fault("l0001,0001,0002;".repeat(12) + "l0001,00", 128);
    }

    private static void noFault() {
        Check.sentence("`int fault()`: FAULT. NONE.");
        fault("", NONE);
        fault("n0,2;", NONE);
        // To ask changes nothing.
        PowerRests x = Texts.laid("n0,3;");
        x.write(1, 'x');
        Check.due(x.fault(), 5, "fault");
        Check.due(x.count(0), 6, "count", 0);
        Check.due(x.count(2), 3, "count", 2);
        Check.due(x.left(), 2, "left");
    }

    private static void periods() {
        Check.sentence("PERIOD, the least common multiple of all M,");
        String[] texts = {"", "n0,2;", "n0,200;", "n0,4;n0,6;", "n0,200;".repeat(8), "n0,199;n0,199;", "n0,128;n0,125;", "n0,2;n0,3;n0,5;n0,7;",
            // All of the first to the eighth count.
            "n0,3;" + "n0,2;".repeat(7), "n0,2;".repeat(7) + "n0,3;"};
        int[] due = {1, 2, 200, 12, 200, 199, 16000, 210, 6, 6};
        for (int k = 0; k < texts.length; k++) {
            PowerRests x = Texts.with(texts[k]);
            Check.due(x.lay(), due[k], "lay " + texts[k]);
            Check.due(x.count(2), due[k], "count 2 of " + texts[k]);
        }
    }

    private static void greatestPeriod() {
        Check.sentence("is 2000000 or less");
        // No numbers to 200 have a multiple between 1999998 and 2000016.
        Check.due(Texts.with("n0,54;n0,77;n0,13;n0,37;").lay(), 1999998, "lay");
        Check.due(Texts.laid("b53,53,54;b76,76,77;b12,12,13;b36,36,37;").ith(0), 1999997, "ith", 0);
        Check.due(Texts.with("n0,144;n0,17;n0,19;n0,43;").lay(), NO, "lay");
        Check.due(Texts.with("n0,16;n0,9;n0,17;n0,19;n0,43;").lay(), NO, "lay");
        // It is the eighth that makes it too great, or just not.
        Check.due(Texts.with("n0,2;".repeat(4) + "n0,54;n0,77;n0,13;n0,37;").lay(), 1999998, "lay");
        Check.due(Texts.with("n0,2;".repeat(4) + "n0,144;n0,17;n0,19;n0,43;").lay(), NO, "lay");
    }

    private static void multiplesThatWrap() {
        Check.sentence("NO: a FAULT, the PERIOD is greater than told.");
        // By the lowest 32 bits these products would be 492775, 137857, 1326761, 1401613 and 78073.
        int[][] wrap = {{101, 107, 109, 131, 167}, {101, 109, 127, 191, 193}, {101, 103, 109, 157, 173, 199},
            {101, 103, 107, 113, 127, 151, 181}, {101, 103, 107, 109, 131, 149, 197, 199}};
        for (int[] all : wrap) {
            StringBuilder text = new StringBuilder();
            for (int by : all) {
                text.append("n0,").append(by).append(';');
            }
            PowerRests x = Texts.with(text.toString());
            Check.due(x.fault(), NONE, "fault of " + text);
            Check.due(x.lay(), NO, "lay " + text);
            Check.due(x.count(1), 0, "count", 1);
        }
    }

    private static void refusedLay() {
        Check.sentence("LAID: the PERIOD. NO: a FAULT, the PERIOD is greater than told.");
        PowerRests x = Texts.laid("b0,1,5;n0,2;l0,0,3;");
        x.wipe();
        for (String refused : new String[] {"x", "n0,2", "n0,2;n1,2;x", "n0,2;".repeat(9), "n0,199;n0,197;n0,193;", "n0,144;n0,17;n0,19;n0,43;"}) {
            Texts.write(x, refused);
            Check.due(x.lay(), NO, "lay " + refused);
            Check.due(x.count(0), refused.length(), "count 0: " + refused);
            Check.due(x.count(1), 3, "count 1: " + refused);
            Check.due(x.count(2), 30, "count 2: " + refused);
            Check.due(x.left(), 6, "left: " + refused);
            Check.due(x.ith(0), 1, "ith 0: " + refused);
            Check.due(x.ith(1), 5, "ith 1: " + refused);
            Check.due(x.from(6), 11, "from 6: " + refused);
            Check.due(x.needless(0), 0, "needless 0: " + refused);
            Check.due(x.needless(2), 1, "needless 2: " + refused);
            Check.due(x.lone(), NONE, "lone: " + refused);
            x.wipe();
        }
    }

    private static void layAgain() {
        Check.sentence("LAID is a TEXT without FAULT");
        PowerRests x = Texts.laid(EIGHT);
        Check.due(x.left(), 0, "left");
        Check.due(x.lone(), 255, "lone");
        Check.due(x.lay(), 8, "lay the same again");
        Check.due(x.count(1), 8, "count", 1);
        x.wipe();
        Texts.write(x, "n0,3;");
        Check.due(x.lay(), 3, "lay another");
        Check.due(x.count(1), 1, "count", 1);
        Check.due(x.left(), 2, "left");
        Check.due(x.lone(), NONE, "lone");
        Check.due(x.needless(1), BAD, "needless", 1);
        Texts.write(x, "n1,3;");
        Check.due(x.lay(), 3, "lay what came behind, too");
        Check.due(x.left(), 1, "left");
        x.wipe();
        Check.due(x.lay(), 1, "lay the empty one");
        Check.due(x.left(), 1, "left");
    }

    private static void left() {
        Check.sentence("How many are LEFT of a PERIOD.");
        Check.due(Texts.laid("b0,1,2;").left(), 2, "left: all");
        Check.due(Texts.laid("n0,2;n1,2;").left(), 0, "left: none");
        Check.due(Texts.laid(LAST).left(), 1, "left: the last");
        Check.due(Texts.laid("b0,0,199;b0,0,193;b0,0,52;").left(), 1, "left: the first");
        Check.due(Texts.laid("l0,0,199;l0,0,193;l0,0,52;").left(), LAST_PERIOD, "left: all of a long one");
        for (int by : new int[] {2, 63, 64, 65, 127, 128, 129, 199, 200}) {
            PowerRests x = new PowerRests();
            Texts.write(x, "n" + (by - 1) + "," + by + ";");
            x.lay();
            Check.due(x.left(), by - 1, "left without the last of", by);
        }
    }

    private static void ithWithin() {
        Check.sentence("the i-th (0 first,");
        // All but 0 by 200, and but 100 by 200: each place of two PERIODS.
        PowerRests first = Texts.laid("n0,200;");
        PowerRests middle = Texts.laid("n100,200;");
        for (int i = 0; i < 398; i++) {
            Check.due(first.ith(i), i + 1 + i / 199, "ith without the first", i);
            Check.due(middle.ith(i), i + (i + 99) / 199, "ith without the middle", i);
        }
        PowerRests thinned = Texts.laid("b0,0,3;n0,67;");
        int i = 0;
        for (int number = 0; number < 402; number += 3) {
            if (number % 67 != 0) {
                Check.due(thinned.ith(i), number, "ith", i);
                i++;
            }
        }
        PowerRests many = Texts.laid("l0,0,199;l0,0,193;l0,0,52;");
        for (int place : new int[] {0, 63, 64, 999999, (int) LAST_PERIOD - 1, (int) LAST_PERIOD}) {
            Check.due(many.ith(place), place, "ith of all", place);
        }
    }

    private static void ithBeyond() {
        Check.sentence("the i-th (0 first, beyond the PERIOD, too);");
        PowerRests x = Texts.laid("b1,2,5;");
        long[] due = {1, 2, 6, 7, 11, 12};
        for (int i = 0; i < due.length; i++) {
            Check.due(x.ith(i), due[i], "ith", i);
        }
        Check.due(x.ith(1000000000L), 2500000001L, "ith", 1000000000L);
        Check.due(x.ith(999999999L), 2499999997L, "ith", 999999999L);
        x = Texts.laid(LAST);
        Check.due(x.ith(0), LAST_PERIOD - 1, "ith", 0);
        Check.due(x.ith(1), 2 * LAST_PERIOD - 1, "ith", 1);
        Check.due(x.ith(1000000000L), 1000000001L * LAST_PERIOD - 1, "ith", 1000000000L);
    }

    private static void ithBounds() {
        Check.sentence("The i-th that is LEFT (i to 10 to the 9). NONE; BAD.");
        for (String text : new String[] {"", "n0,2;", "n0,2;n1,2;"}) {
            PowerRests x = Texts.laid(text);
            for (long i : new long[] {Long.MIN_VALUE, -1, 1000000001L, 1L << 32, Long.MAX_VALUE}) {
                Check.due(x.ith(i), BAD, "ith: " + text, i);
            }
        }
        PowerRests none = Texts.laid("n0,2;n1,2;");
        Check.due(none.ith(0), NONE, "ith", 0);
        Check.due(none.ith(1000000000L), NONE, "ith", 1000000000L);
    }

    private static void fromBounds() {
        Check.sentence("the least that is n or more (n to 10 to the 15).");
        PowerRests x = Texts.laid("b1,2,5;");
        long[] due = {1, 1, 2, 6, 6, 6, 6, 7, 11};
        for (int n = 0; n < due.length; n++) {
            Check.due(x.from(n), due[n], "from", n);
        }
        Check.due(x.from(999999999999997L), 999999999999997L, "from", 999999999999997L);
        Check.due(x.from(999999999999998L), 1000000000000001L, "from", 999999999999998L);
        // The answer may be above 10 to the 15.
        Check.due(x.from(1000000000000000L), 1000000000000001L, "from", 1000000000000000L);
        x = Texts.laid(LAST);
        Check.due(x.from(0), LAST_PERIOD - 1, "from", 0);
        Check.due(x.from(LAST_PERIOD - 1), LAST_PERIOD - 1, "from", LAST_PERIOD - 1);
        Check.due(x.from(LAST_PERIOD), 2 * LAST_PERIOD - 1, "from", LAST_PERIOD);
        long most = 1000000000000000L;
        Check.due(x.from(most), (most / LAST_PERIOD + 1) * LAST_PERIOD - 1, "from", most);
        for (long begin : new long[] {63, 64, 65, 127, 128}) {
            x = Texts.laid("b" + begin + "," + begin + ",199;");
            Check.due(x.from(begin), begin, "from", begin);
            Check.due(x.from(begin - 1), begin, "from", begin - 1);
            Check.due(x.from(begin + 1), begin + 199, "from", begin + 1);
        }
    }

    private static void fromNoneOrBad() {
        Check.sentence("The least LEFT that is n or more. NONE; BAD.");
        for (String text : new String[] {"", "n0,2;", "n0,2;n1,2;"}) {
            PowerRests x = Texts.laid(text);
            for (long n : new long[] {Long.MIN_VALUE, -1, 1000000000000001L, Long.MAX_VALUE}) {
                Check.due(x.from(n), BAD, "from: " + text, n);
            }
        }
        PowerRests none = Texts.laid("n0,2;n1,2;");
        Check.due(none.from(0), NONE, "from", 0);
        Check.due(none.from(1000000000000000L), NONE, "from", 1000000000000000L);
    }

    private static void needless(String text, int... due) {
        PowerRests x = Texts.laid(text);
        for (int k = 0; k < due.length; k++) {
            Check.due(x.needless(k), due[k], "needless: " + text, k);
        }
    }

    private static void needless() {
        Check.sentence("1: an ITEM is NEEDLESS; 0. BAD.");
        needless("n0,2;", 0);
        needless("b0,1,2;", 1);
        needless("n0,2;n0,2;", 1, 1);
        needless("n0,2;n1,2;", 0, 0);
        // Nothing is LEFT by the first two or by the last alone.
        needless("n0,2;n1,2;l0,1,3;", 1, 1, 1);
        needless("n0,3;n1,2;l0,1,3;", 1, 1, 0);
        needless("l0,1,2;l0,1,3;", 1, 1);
        needless("n0,2;n0,4;", 0, 1);
        needless("n0,4;n0,2;", 1, 0);
        needless(EIGHT, 0, 0, 0, 0, 0, 0, 0, 0);
        needless("n0,2;".repeat(8), 1, 1, 1, 1, 1, 1, 1, 1);
    }

    private static void needlessToEachNumber() {
        Check.sentence("NEEDLESS is an ITEM, if without it the same are LEFT (to each number).");
        // The third takes one number of the PERIOD away: the last, the first.
        needless("b198,198,199;b192,192,193;n51,52;", 0, 0, 0);
        needless("b0,0,199;b0,0,193;n0,52;", 0, 0, 0);
        needless("b0,0,199;b0,0,193;l0,0,52;", 0, 0, 1);
        // Each says nothing beside the others, though not all may go.
        needless("n0,2;b1,1,2;n0,4;", 1, 1, 1);
        needless("b0,0,64;n0,128;", 0, 0);
        needless("b63,63,64;n127,128;", 0, 0);
    }

    private static void needlessBounds() {
        Check.sentence("1: an ITEM is NEEDLESS; 0. BAD.");
        for (int items = 0; items <= 8; items++) {
            PowerRests x = Texts.laid("n0,2;".repeat(items));
            for (int k : new int[] {LEAST, -1, items, items + 1, 8, 32, MOST}) {
                Check.due(x.needless(k), BAD, "needless", items, k);
            }
            Check.due(items == 0 ? 1 : x.needless(items - 1), items == 1 ? 0 : 1, "needless, the last of", items);
        }
        // ITEMS that are LAID count, not those of THE TEXT.
        PowerRests x = Texts.laid("n0,2;");
        Texts.write(x, "n0,2;");
        Check.due(x.needless(1), BAD, "needless", 1);
        x.wipe();
        Check.due(x.needless(0), 0, "needless", 0);
    }

    private static void loneFewest() {
        Check.sentence("LONE: the least set of ITEMS (fewest, then the least bits) by which nothing is LEFT,");
        String[] texts = {"l2,1,4;", "n0,2;n1,2;", "n0,2;n1,2;l0,1,3;", "l0,1,2;l0,1,3;", "n0,3;l0,1,3;l0,1,2;", "n0,2;l1,0,2;n1,2;", "n0,2;b1,1,2;n1,2;",
            EIGHT, "n0,3;n1,3;n2,3;n1,2;n0,2;", "n0,8;n1,8;n2,8;n3,8;n4,8;n5,8;n6,8;l0,1,2;", "l1,1,4;l1,3,6;n1,2;l1,0,2;p2,1,3;",
            // The first two leave one number of their own PERIOD: the last, the first.
            "b198,198,199;b192,192,193;n198,199;", "b0,0,199;b0,0,193;n0,199;"};
        int[] due = {1, 3, 4, 1, 2, 3, 5, 255, 24, 128, 5, 5, 5};
        for (int k = 0; k < texts.length; k++) {
            Check.due(Texts.laid(texts[k]).lone(), due[k], "lone: " + texts[k]);
        }
    }

    private static void loneNone() {
        Check.sentence("LONE: ITEMS as bits. NONE: something is LEFT.");
        for (String text : new String[] {"", "n0,2;", "b0,0,2;", LAST, "b0,0,199;b0,0,193;b0,0,52;", EIGHT.replace("n7,8;", "n6,8;")}) {
            Check.due(Texts.laid(text).lone(), NONE, "lone: " + text);
        }
    }

    private static void counts() {
        Check.sentence("How many: 0 bytes of THE TEXT, 1 ITEMS LAID, 2 the PERIOD. BAD.");
        PowerRests x = Texts.laid(EIGHT);
        for (int what : new int[] {LEAST, -1, 3, 4, MOST}) {
            Check.due(x.count(what), BAD, "count", what);
        }
        Check.due(x.count(0), 40, "count", 0);
        Check.due(x.count(1), 8, "count", 1);
        Check.due(x.count(2), 8, "count", 2);
    }
}
