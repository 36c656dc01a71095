import java.lang.reflect.Method;
import java.lang.reflect.Modifier;
import java.nio.file.Files;
import java.nio.file.Path;
import java.util.Map;
import java.util.Set;
import java.util.TreeSet;
import java.util.regex.Matcher;
import java.util.regex.Pattern;

/** Each call in README.md, one after the other on one object, answers what stands behind it. */
public final class ReadmeTest {
    private static final Pattern CALL = Pattern.compile("x\\.([a-zA-Z]+)\\((.*)\\); +// (-?[0-9]+|[A-Z]+)\\b.*");
    private static final Map<String, Integer> NAMED =
        Map.of("BAD", PowerRests.BAD, "NO", PowerRests.NO, "FULL", PowerRests.FULL, "NONE", PowerRests.NONE);

    public static void main(String[] args) throws Exception {
        PowerRests x = new PowerRests();
        Set<String> shown = new TreeSet<>();
        for (String line : Files.readAllLines(Path.of("README.md"))) {
            Matcher call = CALL.matcher(line);
            boolean isCall = call.matches();
            Check.holds(isCall || !line.startsWith("x."), "a call with its answer is " + line);
            if (isCall) {
                shown.add(call.group(1));
                Check.due(answer(x, call.group(1), call.group(2)), due(call.group(3)), line);
            }
        }
        for (Method m : PowerRests.class.getDeclaredMethods()) {
            Check.holds(!Modifier.isPublic(m.getModifiers()) || shown.contains(m.getName()), m.getName() + " is shown");
        }
        Check.end();
    }

    private static long due(String answer) {
        return NAMED.containsKey(answer) ? NAMED.get(answer) : Long.parseLong(answer);
    }

    private static long answer(PowerRests x, String name, String arguments) throws Exception {
        String[] told = arguments.isEmpty() ? new String[0] : arguments.split(", ");
        for (Method m : PowerRests.class.getDeclaredMethods()) {
            if (m.getName().equals(name) && Modifier.isPublic(m.getModifiers()) && m.getParameterCount() == told.length) {
                Object[] values = new Object[told.length];
                for (int k = 0; k < told.length; k++) {
                    long value = Long.decode(told[k].replaceFirst("L$", ""));
                    if (m.getParameterTypes()[k] == int.class) {
                        values[k] = Math.toIntExact(value);
                    } else {
                        values[k] = value;
                    }
                }
                return ((Number) m.invoke(x, values)).longValue();
            }
        }
        throw new IllegalArgumentException("the face has no " + name + "(" + arguments + ")");
    }
}
