import java.lang.reflect.Field;
import java.lang.reflect.Method;
import java.lang.reflect.Modifier;
import java.util.Arrays;
import java.util.Set;
import java.util.TreeSet;

/** The public face of the document, and rules 1, 5 and 11 of LANGUAGE.md as far as the compiled class shows them. */
public final class FaceTest {
    private static final String[] FACE = {
        "int units(int, int)", "int order(int, int)", "int orders(int, int, int)", "int makers(int, int)", "int power(int, int, long)",
        "int log(int, int, int)", "int roots(int, int, int, int)", "int squares(int, int)", "int sign(int, int)", "int write(int, long)",
        "int wipe()", "int fault()", "int lay()", "int left()", "long ith(long)", "long from(long)", "int needless(int)", "int lone()",
        "int looks(int, int, int)", "int lied(int, int)", "int falseOnes(int, int)", "int fooled(int, int, int)", "int broken(int, int, int)",
        "int figure(int, int, int)", "int soLong(int, int, int, int)", "int turning(int, int, int)", "int tower(int, int, long)",
        "int back(int, int, int)", "int stay(int, int, int, int)", "int rounds(int, int, int, int)", "int count(int)"};

    public static void main(String[] args) throws Exception {
        Class<?> face = PowerRests.class;
        Check.holds(Modifier.isPublic(face.getModifiers()) && Modifier.isFinal(face.getModifiers()), "public and final");
        Check.holds(face.getPackageName().isEmpty(), "no package");
        Set<String> due = new TreeSet<>(Arrays.asList(FACE));
        Set<String> names = new TreeSet<>();
        Set<String> got = new TreeSet<>();
        for (Method m : face.getDeclaredMethods()) {
            if (!Modifier.isPrivate(m.getModifiers())) {
                names.add(m.getName());
                got.add(m.getReturnType() + " " + m.getName() + Arrays.toString(m.getParameterTypes()).replace('[', '(').replace(']', ')'));
            }
        }
        Check.holds(got.equals(due), "methods " + got);
        Check.holds(face.getConstructors().length == 1 && face.getDeclaredConstructors().length == 1
            && face.getConstructors()[0].getParameterCount() == 0, "one constructor");
        fields(face);
        privateNames(face, names);
        for (Class<?> inside : face.getDeclaredClasses()) {
            Check.holds(Modifier.isStatic(inside.getModifiers()) && !Modifier.isPublic(inside.getModifiers()), inside + " is static and not public");
            privateNames(inside, names);
        }
        Check.holds(face.getDeclaredClasses().length <= 12, "at most twelve classes");
        Check.end();
    }

    private static void fields(Class<?> face) throws Exception {
        String[] names = {"BAD", "NO", "FULL", "NONE"};
        int[] values = {-1, -2, -3, -4};
        for (int k = 0; k < names.length; k++) {
            Field f = face.getField(names[k]);
            Check.holds(Modifier.isStatic(f.getModifiers()) && Modifier.isFinal(f.getModifiers()) && f.getType() == int.class, names[k] + " is a constant");
            Check.due(f.getInt(null), values[k], names[k]);
        }
        int open = 0;
        for (Field f : face.getDeclaredFields()) {
            open += Modifier.isPrivate(f.getModifiers()) ? 0 : 1;
        }
        Check.due(open, names.length, "fields that are not private");
    }

    private static void privateNames(Class<?> where, Set<String> face) {
        for (Method m : where.getDeclaredMethods()) {
            boolean isFace = where == PowerRests.class && Modifier.isPublic(m.getModifiers());
            Check.holds(isFace || !face.contains(m.getName()), m + " has no name of the face");
            Check.holds(m.getParameterCount() <= 7, m + " has at most seven parameters");
        }
        int own = 0;
        for (Field f : where.getDeclaredFields()) {
            boolean isStatic = Modifier.isStatic(f.getModifiers());
            Check.holds(!isStatic || Modifier.isFinal(f.getModifiers()), f + " is final, if it is static");
            own += isStatic ? 0 : 1;
        }
        Check.holds(own <= 20, where + " has at most twenty fields");
    }
}
