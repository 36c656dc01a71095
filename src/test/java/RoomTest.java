import java.lang.management.ManagementFactory;

/** What a run makes is counted: nothing may be made by calls, and little by the constructor. */
public final class RoomTest {
    private static final com.sun.management.ThreadMXBean COUNTER = (com.sun.management.ThreadMXBean) ManagementFactory.getThreadMXBean();
    // 7.3 million elements of 8 bytes at most are the room of a run; an object of ours takes a thousandth part.
    private static final long MOST_OF_AN_OBJECT = 40000;

    public static void main(String[] args) {
        new PowerRests();
        long id = Thread.currentThread().getId();
        long before = COUNTER.getThreadAllocatedBytes(id);
        PowerRests x = new PowerRests();
        long made = COUNTER.getThreadAllocatedBytes(id) - before;
        Check.holds(made < MOST_OF_AN_OBJECT, "an object takes " + made + " bytes");
        dearest(x);
        before = COUNTER.getThreadAllocatedBytes(id);
        for (int k = 0; k < 16; k++) {
            dearest(x);
        }
        made = COUNTER.getThreadAllocatedBytes(id) - before;
        Check.holds(made < 4096, "512 dear calls make " + made + " bytes");
        Check.end();
    }

    private static void dearest(PowerRests x) {
        x.units(50000, 19999);
        x.order(49999, 3);
        x.orders(50000, 0, 0);
        x.orders(30030, 12, 1);
        x.makers(49999, 15359);
        x.power(49999, 3, 1000000000000L);
        x.log(49999, 3, 0);
        x.roots(50000, 0, 100, 49999);
        x.squares(49999, 2);
        x.sign(1000000, 99999);
        x.wipe();
        for (long part : new long[] {0x6e302c3132353b6eL, 0x302c3132363b6e30L, 0x2c3132373b6e322cL}) {
            x.write(8, part);
        }
        x.write(4, 0x3132353bL);
        x.fault();
        x.lay();
        x.left();
        x.ith(1000000000);
        x.from(1000000000000000L);
        x.needless(0);
        x.lone();
        x.looks(50001, 2, 1);
        x.lied(50001, 1);
        x.falseOnes(5000, -1);
        x.fooled(7, 50001, -1);
        x.broken(10, 49999, 1);
        x.figure(10, 49999, 1000000);
        x.soLong(10, 3000, 3000, -1);
        x.turning(10, 49993, 2);
        x.tower(50000, 6, 1127000493261825000L);
        x.back(199, 197, 5);
        x.stay(199, 197, 5, 14);
        x.rounds(199, 197, 5, 2);
        x.count(2);
    }
}
