import java.lang.reflect.Constructor;
import java.lang.reflect.Field;
import java.lang.reflect.Method;
import java.lang.reflect.Modifier;
import java.util.TreeSet;

/** The class shows the document's face and nothing besides. */
public final class FaceTest {
    private static final String[] METHODS = {
        "boolean bin(int,int)", "boolean stage(int,int,int,int)", "int from(int,int)", "int to(int,int,int)",
        "int stands()", "int feed(int,int,int,int,int)", "boolean plan(int,int,int)",
        "boolean rule(int,int,int,int)", "int beat(int)", "boolean command(int)", "boolean divert(int,int,int)",
        "int state(int,int)", "int in(int,int,int)", "int level(int,int)", "int part(int,int)", "int sacks(int)",
        "int aside(int,int)", "long total(int)", "int quiet()", "int ring(int)", "int count(int)"};

    public static void main(String[] args) {
        Checks c = new Checks();
        TreeSet<String> due = new TreeSet<>(java.util.List.of(METHODS));
        TreeSet<String> found = new TreeSet<>();
        for (Method m : MillLine.class.getDeclaredMethods()) {
            if (!Modifier.isPrivate(m.getModifiers()) && !m.isSynthetic()) {
                c.due("public " + m, Modifier.isPublic(m.getModifiers()), true);
                found.add(signature(m));
            } else {
                c.due("own name of " + m, java.util.Arrays.stream(METHODS)
                    .anyMatch(f -> f.contains(" " + m.getName() + "(")), false);
            }
        }
        c.due("methods " + found, found.equals(due), true);
        for (Field f : MillLine.class.getDeclaredFields()) {
            boolean isNone = f.getName().equals("NONE") && Modifier.isPublic(f.getModifiers());
            c.due("field " + f, isNone || Modifier.isPrivate(f.getModifiers()), true);
            c.due("static is final: " + f,
                !Modifier.isStatic(f.getModifiers()) || Modifier.isFinal(f.getModifiers()), true);
        }
        Constructor<?>[] made = MillLine.class.getDeclaredConstructors();
        c.due("constructors", made.length, 1);
        c.due("public constructor", Modifier.isPublic(made[0].getModifiers()), true);
        c.due("final class", Modifier.isFinal(MillLine.class.getModifiers()), true);
        for (Class<?> inside : MillLine.class.getDeclaredClasses()) {
            c.due("static " + inside, Modifier.isStatic(inside.getModifiers()), true);
            c.due("fields of " + inside, instanceFields(inside) <= 20, true);
        }
        c.due("NONE", MillLine.NONE, -1);
        c.end();
    }

    private static int instanceFields(Class<?> inside) {
        int fields = 0;
        for (Field f : inside.getDeclaredFields()) {
            fields += Modifier.isStatic(f.getModifiers()) ? 0 : 1;
        }
        return fields;
    }

    private static String signature(Method m) {
        StringBuilder text = new StringBuilder();
        text.append(m.getReturnType()).append(' ').append(m.getName()).append('(');
        for (int i = 0; i < m.getParameterCount(); i++) {
            text.append(i == 0 ? "" : ",").append(m.getParameterTypes()[i]);
        }
        return text.append(')').toString();
    }
}
