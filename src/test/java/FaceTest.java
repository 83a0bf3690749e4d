import java.lang.reflect.Constructor;
import java.lang.reflect.Executable;
import java.lang.reflect.Field;
import java.lang.reflect.Method;
import java.lang.reflect.Modifier;
import java.util.ArrayList;
import java.util.Arrays;
import java.util.List;
import java.util.TreeSet;

/** The public face, member by member, and no other member that can be seen. */
final class FaceTest {
    private static final Check CHECK = new Check("FaceTest");
    private static final String B = "IndexOutOfBoundsException";
    private static final String A = "IllegalArgumentException";
    private static final String S = "IllegalStateException";
    private static final String[] METHODS = {
        "int place(0) " + S, "int join(3) " + B + " " + A + " " + S, "int street(0) " + S,
        "int span(4) " + B + " " + A + " " + S, "int name(2) " + B + " " + S, "boolean same(2) " + B,
        "int leads(2) " + B + " " + A, "int leadsAnew(2) " + B + " " + A, "int placeOf(2) " + B + " " + A,
        "int way(2) " + B, "int car(1) " + B + " " + S, "int call(2) " + B + " " + A + " " + S,
        "int clear(2) " + B + " " + S, "int ofCall(2) " + B, "int ofCar(2) " + B,
        "int locker(4) " + B + " " + A + " " + S, "int post(3) " + B + " " + A + " " + S,
        "int take(1) " + B + " " + S, "int ofParcel(2) " + B, "int free(2) " + B,
        "int pass(1) " + A + " " + S, "int count(1) " + A,
    };
    private static final String[] CONSTANTS = {
        "NONE=-1", "DOUBT=-2", "WAITING=0", "SENT=1", "DONE=2", "IN_DOUBT=3", "LOST=4",
        "POSTED=0", "HELD=1", "TAKEN=2", "RETURNED=3",
    };

    public static void main(String[] args) throws Exception {
        Class<?> face = CompassRolls.class;
        CHECK.due("public and final", true,
            Modifier.isPublic(face.getModifiers()) && Modifier.isFinal(face.getModifiers()));
        List<String> methods = new ArrayList<>();
        for (Method m : face.getDeclaredMethods()) {
            if (!Modifier.isPrivate(m.getModifiers()) && !m.isSynthetic()) {
                methods.add(shown(m));
                CHECK.due(m + " is public alone", Modifier.PUBLIC, m.getModifiers());
            }
        }
        same("methods", Arrays.asList(METHODS), methods);
        List<String> constants = new ArrayList<>();
        for (Field f : face.getDeclaredFields()) {
            if (!Modifier.isPrivate(f.getModifiers()) && !f.isSynthetic()) {
                CHECK.due(f + " is public static final", Modifier.PUBLIC | Modifier.STATIC | Modifier.FINAL,
                    f.getModifiers());
                constants.add(f.getName() + "=" + f.getInt(null));
            }
        }
        same("constants", Arrays.asList(CONSTANTS), constants);
        Constructor<?>[] made = face.getDeclaredConstructors();
        CHECK.due("one constructor", 1, made.length);
        CHECK.due("it is public, without parameters", true,
            Modifier.isPublic(made[0].getModifiers()) && made[0].getParameterCount() == 0);
        noPrivateNamesake(face);
        CHECK.end();
    }

    private static String shown(Method m) {
        StringBuilder text = new StringBuilder(m.getReturnType().toString());
        text.append(' ').append(m.getName()).append('(').append(m.getParameterCount()).append(')');
        for (Class<?> thrown : m.getExceptionTypes()) {
            text.append(' ').append(thrown.getSimpleName());
        }
        for (Class<?> type : ((Executable) m).getParameterTypes()) {
            CHECK.due(m + " takes ints", true, type == int.class);
        }
        return text.toString();
    }

    private static void same(String what, List<String> want, List<String> got) {
        boolean same = new TreeSet<>(want).equals(new TreeSet<>(got)) && want.size() == got.size();
        if (!same) {
            System.out.println("want " + new TreeSet<>(want) + "\ngot  " + new TreeSet<>(got));
        }
        CHECK.due(what, true, same);
    }

    private static void noPrivateNamesake(Class<?> face) {
        TreeSet<String> names = new TreeSet<>();
        for (Method m : face.getMethods()) {
            names.add(m.getName());
        }
        for (Class<?> inside : face.getDeclaredClasses()) {
            for (Method m : inside.getDeclaredMethods()) {
                CHECK.due(m + " bears the name of a public one", false, names.contains(m.getName()));
            }
        }
        for (Method m : face.getDeclaredMethods()) {
            if (Modifier.isPrivate(m.getModifiers())) {
                CHECK.due(m + " bears the name of a public one", false, names.contains(m.getName()));
            }
        }
    }
}
