import java.lang.reflect.InvocationTargetException;
import java.lang.reflect.Method;
import java.util.Arrays;

/** No call may throw, for any arguments in any state; and one that answers BAD changes nothing. */
public final class NeverThrowsTest {
    private static final long[] EDGES = {Long.MIN_VALUE, Integer.MIN_VALUE, -100, -5, -4, -3, -2, -1, 0, 1, 2, 3, 4, 5, 6, 7, 8, 9, 10, 36, 37, 49, 100,
        101, 197, 199, 200, 999, 1000, 1001, 1024, 2000, 3000, 3001, 5000, 5001, 49999, 50000, 50001, 99999, 100000, 100001, 1000000, 1000001,
        Integer.MAX_VALUE, 1000000000L, 1000000000000L, 1000000000000000L, Long.MAX_VALUE};
    private static long seed = 99;

    public static void main(String[] args) throws Exception {
        Method[] face = Arrays.stream(PowerRests.class.getMethods()).filter(m -> m.getDeclaringClass() == PowerRests.class)
            .sorted((a, b) -> a.toString().compareTo(b.toString())).toArray(Method[]::new);
        for (int run = 0; run < 60; run++) {
            PowerRests x = new PowerRests();
            for (int call = 0; call < 512; call++) {
                if (call % 16 == 0) {
                    text(x);
                }
                ask(x, face[next(face.length)]);
            }
        }
        Check.end();
    }

    private static void text(PowerRests x) {
        x.wipe();
        String signs = "lpnb,;0123456789";
        int items = next(9);
        for (int k = 0; k < items; k++) {
            for (char c : ("n" + next(3) + "," + (2 + next(9)) + ";").toCharArray()) {
                x.write(1, next(60) == 0 ? signs.charAt(next(signs.length())) : c);
            }
        }
        x.lay();
    }

    private static void ask(PowerRests x, Method m) throws Exception {
        Object[] arguments = new Object[m.getParameterCount()];
        for (int k = 0; k < arguments.length; k++) {
            long edge = next(4) == 0 ? next(60) : EDGES[next(EDGES.length)];
            arguments[k] = m.getParameterTypes()[k] == int.class ? (Object) (int) edge : (Object) edge;
        }
        long[] before = {x.count(0), x.count(1), x.count(2), x.left(), x.fault()};
        try {
            long answer = ((Number) m.invoke(x, arguments)).longValue();
            Check.holds(answer >= (m.getName().equals("sign") ? -100 : -4), m.getName() + Arrays.toString(arguments) + " answered " + answer);
            boolean changes = answer >= 0 && (m.getName().equals("write") || m.getName().equals("wipe") || m.getName().equals("lay"));
            long[] after = {x.count(0), x.count(1), x.count(2), x.left(), x.fault()};
            Check.holds(changes || Arrays.equals(before, after), m.getName() + Arrays.toString(arguments) + " changed something");
        } catch (InvocationTargetException e) {
            Check.holds(false, m.getName() + Arrays.toString(arguments) + " threw " + e.getCause());
        }
    }

    private static int next(int below) {
        seed = seed * 6364136223846793005L + 1442695040888963407L;
        return (int) Math.floorMod(seed >> 33, (long) below);
    }
}
