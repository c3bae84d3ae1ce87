import java.lang.reflect.Constructor;
import java.lang.reflect.Field;
import java.lang.reflect.Method;
import java.lang.reflect.Modifier;
import java.util.ArrayList;
import java.util.Arrays;
import java.util.Collections;
import java.util.List;

/** The public face is the document's, and nothing else can be seen. */
public final class FaceTest {
    private static final String[] METHODS = {
        "int set(int,int,int)", "int person(int,int,int)", "int told(int,int)", "int asks(int,int,int)",
        "int woken(int,int)", "int feed(int)", "int text()", "int force(int)", "int day()", "int run(int,int,int)",
        "int round(int)", "int others(int)", "int duty(int,int,int)", "int fonder(int,int,int)", "long mean(int)",
        "int tells(int,int,int,int)", "int film(int,int,int)", "int drawn(int,int)", "long chance(int,int,int,int)",
        "int image()", "int back()", "int count(int)", "int sheet(int,int,int)", "int cell(int,int,int)",
        "int copy(int,int,int,int,int)", "int court(int,int,int,int)", "int taken(int,int)"};

    public static void main(String[] args) throws ReflectiveOperationException {
        Checks checks = new Checks("FaceTest");
        Class<?> face = AlarmsOfFondness.class;
        checks.holds("public and final", Modifier.isPublic(face.getModifiers()) && Modifier.isFinal(face.getModifiers()));
        checks.holds("no package", face.getPackageName().isEmpty());

        List<String> seen = new ArrayList<>();
        List<String> names = new ArrayList<>();
        for (Method m : face.getDeclaredMethods()) {
            if (!Modifier.isPrivate(m.getModifiers())) {
                checks.holds(m + " is public and of an object",
                        Modifier.isPublic(m.getModifiers()) && !Modifier.isStatic(m.getModifiers()));
                seen.add(line(m));
                names.add(m.getName());
            }
        }
        List<String> want = new ArrayList<>(Arrays.asList(METHODS));
        Collections.sort(want);
        Collections.sort(seen);
        checks.holds("methods " + seen, seen.equals(want));

        Constructor<?>[] made = face.getDeclaredConstructors();
        checks.due("constructors", made.length, 1);
        checks.holds("public, of nothing", Modifier.isPublic(made[0].getModifiers()) && made[0].getParameterCount() == 0);

        int constants = 0;
        for (Field f : face.getDeclaredFields()) {
            if (!Modifier.isPrivate(f.getModifiers())) {
                checks.holds(f + " is a constant", f.toString().startsWith("public static final "));
                constants++;
            }
            if (Modifier.isStatic(f.getModifiers())) {
                checks.holds(f + " is final", Modifier.isFinal(f.getModifiers()));
            }
        }
        checks.due("constants", constants, 5);
        constants(checks, face);

        for (Class<?> inside : face.getDeclaredClasses()) {
            checks.holds(inside + " is static", Modifier.isStatic(inside.getModifiers()));
            checks.holds(inside + " isn't public", !Modifier.isPublic(inside.getModifiers()));
            for (Method m : inside.getDeclaredMethods()) {
                checks.holds(m + " has no name of the face", !names.contains(m.getName()));
            }
        }
        for (Method m : face.getDeclaredMethods()) {
            checks.holds(m + " isn't private with a name of the face",
                    !Modifier.isPrivate(m.getModifiers()) || !names.contains(m.getName()));
        }
        checks.end();
    }

    private static void constants(Checks checks, Class<?> face) throws ReflectiveOperationException {
        String[] ints = {"NONE", "BAD", "STATE", "FULL"};
        for (int i = 0; i < ints.length; i++) {
            checks.due(ints[i], face.getField(ints[i]).getInt(null), -1 - i);
        }
        checks.due("NO", face.getField("NO").getLong(null), -4611686018427387904L);
        checks.holds("NO is a long", face.getField("NO").getType() == long.class);
    }

    private static String line(Method m) {
        StringBuilder b = new StringBuilder(m.getReturnType() + " " + m.getName() + "(");
        for (Class<?> c : m.getParameterTypes()) {
            b.append(b.charAt(b.length() - 1) == '(' ? "" : ",").append(c);
        }
        return b.append(')').toString();
    }
}
