import java.util.function.ToLongFunction;

/** What holds for all calls: which answer goes first, that refused calls change nothing, and 512 calls an object. */
public final class BoundaryAnswersTest {
    private static final int BAD = PowerRests.BAD, NO = PowerRests.NO, FULL = PowerRests.FULL, NONE = PowerRests.NONE;
    private static final long PAST_I = 1000000001L, PAST_N = 1000000000000001L;

    public static void main(String[] args) {
        badAheadOfNo();
        badAheadOfNone();
        noAheadOfNone();
        badAheadOfFull();
        refusedCallsChangeNothing();
        askingChangesNothing();
        noCallMindsAnother();
        lastOfTheCalls();
        objectsApart();
        Check.end();
    }

    private static void badAheadOfNo() {
        Check.sentence("BAD: a number is none that is told. NO: not as things stand.");
        PowerRests x = new PowerRests();
        Check.due(x.order(8, 10), BAD, "order", 8, 10);
        Check.due(x.order(50002, 2), BAD, "order", 50002, 2);
        Check.due(x.turning(10, 9, 0), BAD, "turning", 10, 9, 0);
        Check.due(x.turning(10, 9, 9), BAD, "turning", 10, 9, 9);
        Check.due(x.turning(37, 9, 1), BAD, "turning", 37, 9, 1);
        Check.due(x.turning(10, 50002, 1), BAD, "turning", 10, 50002, 1);
        Check.due(x.back(4, 3, 2), BAD, "back", 4, 3, 2);
        Check.due(x.back(3, 3, 2), BAD, "back", 3, 3, 2);
        Check.due(x.back(3, 5, 100002), BAD, "back", 3, 5, 100002);
        Check.due(x.stay(3, 11, 5, -2), BAD, "stay", 3, 11, 5, -2);
        Check.due(x.rounds(3, 11, 5, -2), BAD, "rounds", 3, 11, 5, -2);
        Check.due(x.rounds(3, 11, 5, 33), BAD, "rounds", 3, 11, 5, 33);
    }

    private static void badAheadOfNone() {
        Check.sentence("BAD: a number is none that is told. NO: not as things stand. NONE: there is none.");
        PowerRests x = Texts.laid("n0,2;n1,2;");
        Check.due(x.ith(-1), BAD, "ith", -1);
        Check.due(x.ith(PAST_I), BAD, "ith", PAST_I);
        Check.due(x.from(-1), BAD, "from", -1);
        Check.due(x.from(PAST_N), BAD, "from", PAST_N);
        Check.due(x.log(7, 0, 7), BAD, "log", 7, 0, 7);
        Check.due(x.makers(8, -2), BAD, "makers", 8, -2);
        Check.due(x.makers(50001, 50000), BAD, "makers", 50001, 50000);
        Check.due(x.units(1, 5), BAD, "units", 1, 5);
        Check.due(x.roots(7, 3, 101, 0), BAD, "roots", 7, 3, 101, 0);
        Check.due(x.squares(2, 4), BAD, "squares", 2, 4);
        Check.due(x.lied(3, 3), BAD, "lied", 3, 3);
        Check.due(x.falseOnes(2, 0), BAD, "falseOnes", 2, 0);
        Check.due(x.fooled(8, 3, 0), BAD, "fooled", 8, 3, 0);
        Check.due(x.soLong(10, 3001, 2, 0), BAD, "soLong", 10, 3001, 2, 0);
        Check.due(x.stay(3, 9, 7, 1000), BAD, "stay", 3, 9, 7, 1000);
    }

    private static void noAheadOfNone() {
        Check.sentence("NO: not as things stand. NONE: there is none.");
        PowerRests x = new PowerRests();
        Check.due(x.stay(3, 11, 5, 33), NO, "stay", 3, 11, 5, 33);
        Check.due(x.stay(3, 11, 5, Integer.MAX_VALUE), NO, "stay", 3, 11, 5, Integer.MAX_VALUE);
    }

    private static void badAheadOfFull() {
        Check.sentence("FULL. Of several the first;");
        PowerRests x = Texts.with("n0,2;".repeat(40));
        for (int n : new int[] {Integer.MIN_VALUE, -1, 0, 9, Integer.MAX_VALUE}) {
            Check.due(x.write(n, 0), BAD, "write", n, 0);
        }
        Check.due(x.write(1, 0), FULL, "write", 1, 0);
    }

    /** All that can be seen of the state. */
    private static String seen(PowerRests x) {
        StringBuilder all = new StringBuilder();
        for (int what = 0; what < 3; what++) {
            all.append(x.count(what)).append(' ');
        }
        for (int i = 0; i < 12; i++) {
            all.append(x.ith(i)).append(' ').append(x.from(i)).append(' ').append(x.needless(i)).append(' ');
        }
        return all.append(x.fault()).append(' ').append(x.left()).append(' ').append(x.lone()).toString();
    }

    /** Calls that are refused in each state of states(). */
    private static final ToLongFunction<PowerRests>[] REFUSED = rows(
        x -> x.units(1, 0), x -> x.units(12, 4), x -> x.units(12, -2), x -> x.order(7, 7), x -> x.order(8, 2), x -> x.orders(7, 0, 1), x -> x.orders(7, 1, 2),
        x -> x.makers(8, 0), x -> x.makers(7, -2), x -> x.power(7, 3, -1), x -> x.log(7, 1, 2), x -> x.log(7, 7, 1), x -> x.roots(7, 3, 2, 0),
        x -> x.roots(7, 1, 0, 0), x -> x.squares(2, 3), x -> x.squares(7, 4), x -> x.sign(1, 2), x -> x.write(0, 59), x -> x.write(9, 59), x -> x.ith(-1),
        x -> x.ith(PAST_I), x -> x.from(-1), x -> x.from(PAST_N), x -> x.needless(-1), x -> x.needless(8), x -> x.looks(4, 1, 0), x -> x.looks(7, 7, 0),
        x -> x.looks(7, 1, 3), x -> x.lied(3, 2), x -> x.lied(3, 3), x -> x.falseOnes(5001, 0), x -> x.falseOnes(5000, 5), x -> x.fooled(8, 9, 0),
        x -> x.fooled(2, 9, 0), x -> x.broken(37, 7, 0), x -> x.figure(10, 7, -1), x -> x.soLong(10, 5, 9, 0), x -> x.soLong(10, 3001, 9, 0),
        x -> x.turning(10, 9, 1), x -> x.turning(10, 9, 9), x -> x.tower(7, 1, 0), x -> x.back(3, 11, 5), x -> x.back(3, 3, 1), x -> x.stay(3, 11, 5, 0),
        x -> x.stay(3, 11, 7, 9), x -> x.stay(3, 11, 7, -2), x -> x.rounds(3, 11, 5, 0), x -> x.rounds(3, 11, 7, 33), x -> x.count(3));

    /** Calls that answer something and only ask. */
    private static final ToLongFunction<PowerRests>[] ASKING = rows(
        x -> x.units(50000, 9999), x -> x.units(12, -1), x -> x.order(49999, 3), x -> x.orders(30030, 12, 1), x -> x.orders(50000, 0, 0), x -> x.makers(49999, 7),
        x -> x.makers(18, 1), x -> x.makers(8, -1), x -> x.power(49999, 49998, 1000000000000L), x -> x.log(49999, 3, 2), x -> x.roots(50000, 0, 2, 99),
        x -> x.squares(49999, 1), x -> x.squares(7, 0), x -> x.squares(15, 2), x -> x.squares(8, 3), x -> x.sign(7, 15), x -> x.looks(341, 2, 2),
        x -> x.lied(561, 0), x -> x.lied(50001, 1), x -> x.lied(2047, 2), x -> x.falseOnes(5000, 4), x -> x.fooled(2, 50001, 8), x -> x.fooled(3, 50001, -1),
        x -> x.broken(10, 28, 0), x -> x.broken(10, 28, 1), x -> x.figure(10, 7, 1000000), x -> x.soLong(10, 6, 100, 17), x -> x.soLong(10, 0, 100, -1),
        x -> x.turning(10, 49993, 2), x -> x.tower(1000, 6, 10143004439356425L), x -> x.tower(49152, 2, 6157), x -> x.back(199, 197, 5),
        x -> x.stay(199, 197, 5, 3), x -> x.stay(3, 11, 7, 8), x -> x.rounds(199, 197, 5, 2), x -> x.rounds(61, 53, 17, -1), x -> x.count(2),
        x -> x.fault(), x -> x.left(), x -> x.ith(7), x -> x.from(50), x -> x.needless(0), x -> x.lone());

    @SafeVarargs
    private static ToLongFunction<PowerRests>[] rows(ToLongFunction<PowerRests>... calls) {
        return calls;
    }

    /** A new one; something LEFT; nothing LEFT; a TEXT with a FAULT behind what is LAID. */
    private static PowerRests[] states() {
        PowerRests behind = Texts.laid("b0,1,5;n0,2;l0,0,3;");
        Texts.write(behind, "n0,7;x");
        return new PowerRests[] {new PowerRests(), Texts.laid("p2,1,8;n1,3;b2,5,7;"), Texts.laid("n0,3;n1,3;n2,3;n1,2;n0,2;"), behind};
    }

    private static void refusedCallsChangeNothing() {
        Check.sentence("Of several the first; nothing changes then.");
        PowerRests[] all = states();
        for (int state = 0; state < all.length; state++) {
            String before = seen(all[state]);
            for (int k = 0; k < REFUSED.length; k++) {
                Check.holds(REFUSED[k].applyAsLong(all[state]) < 0, "call " + k + " is refused in state " + state);
                Check.holds(seen(all[state]).equals(before), "call " + k + " changes nothing in state " + state);
            }
        }
        PowerRests full = Texts.laid("n0,3;");
        Texts.write(full, "n0,2;".repeat(39));
        String before = seen(full);
        Check.due(full.write(1, 'x'), FULL, "write", 1);
        Check.due(full.write(8, 'x'), FULL, "write", 8);
        Check.due(full.lay(), NO, "lay");
        Check.holds(seen(full).equals(before), "FULL and NO change nothing");
    }

    private static void askingChangesNothing() {
        Check.sentence("Nothing is promised beyond the answers and state changes described above");
        PowerRests[] all = states();
        for (int state = 0; state < all.length; state++) {
            String before = seen(all[state]);
            for (int k = 0; k < ASKING.length; k++) {
                ASKING[k].applyAsLong(all[state]);
                Check.holds(seen(all[state]).equals(before), "call " + k + " changes nothing in state " + state);
            }
        }
    }

    /** Rows that are used again must not carry what one call left into the next. */
    private static void noCallMindsAnother() {
        Check.sentence("Nothing is promised beyond the answers and state changes described above");
        ToLongFunction<PowerRests>[][] both = pairs();
        for (int k = 0; k < ASKING.length; k++) {
            PowerRests alone = Texts.laid("p2,1,8;n1,3;b2,5,7;");
            long due = ASKING[k].applyAsLong(alone);
            for (ToLongFunction<PowerRests>[] calls : both) {
                PowerRests x = Texts.laid("p2,1,8;n1,3;b2,5,7;");
                for (int first = 0; first < calls.length; first++) {
                    calls[first].applyAsLong(x);
                    Check.due(ASKING[k].applyAsLong(x), due, "call behind another", k, first);
                }
            }
        }
    }

    @SuppressWarnings({"unchecked", "rawtypes"})
    private static ToLongFunction<PowerRests>[][] pairs() {
        return new ToLongFunction[][] {ASKING, REFUSED};
    }

    private static void lastOfTheCalls() {
        Check.sentence("An object is used for at most 512 calls after it has been made;");
        for (int k = 0; k < ASKING.length; k++) {
            long due = ASKING[k].applyAsLong(new PowerRests());
            PowerRests x = new PowerRests();
            for (int call = 1; call < 512; call++) {
                ASKING[call % ASKING.length].applyAsLong(x);
            }
            Check.due(ASKING[k].applyAsLong(x), due, "the 512th call", k);
        }
        // The dearest TEXT laid at each of 512 calls, and one wiped at each.
        PowerRests x = Texts.with("b198,198,199;b192,192,193;b51,51,52;");
        for (int call = 6; call <= 512; call++) {
            Check.due(x.lay(), 1997164, "lay", call);
        }
        x = new PowerRests();
        for (int call = 1; call <= 512; call += 2) {
            Check.due(x.write(8, 0), 8, "write", call);
            Check.due(x.wipe(), 8, "wipe", call + 1);
        }
    }

    private static void objectsApart() {
        Check.sentence("`PowerRests()`: An empty TEXT is LAID.");
        PowerRests one = Texts.laid("n0,2;n1,2;");
        PowerRests other = new PowerRests();
        Check.due(other.left(), 1, "left of the other");
        Check.due(other.count(0), 0, "count of the other", 0);
        Texts.write(other, "n0,3;");
        other.lay();
        Check.due(one.left(), 0, "left of the first");
        Check.due(one.count(0), 10, "count of the first", 0);
        Check.due(one.lone(), 3, "lone of the first");
        Check.due(other.left(), 2, "left of the other");
    }
}
