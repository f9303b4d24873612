import java.lang.reflect.Constructor;
import java.lang.reflect.Field;
import java.lang.reflect.Method;
import java.lang.reflect.Modifier;
import java.util.Arrays;
import java.util.Set;
import java.util.TreeSet;

/** The class shows the document's face, and nothing else. */
public final class FaceTest {
    private static final Set<String> METHODS = new TreeSet<>(Arrays.asList(
        "int offer(int) IndexOutOfBoundsException IllegalStateException",
        "int add(int, int) IndexOutOfBoundsException IllegalStateException",
        "int remove(int, int) IndexOutOfBoundsException IllegalStateException",
        "int update(int) IndexOutOfBoundsException IllegalStateException",
        "int commit(int, boolean) IndexOutOfBoundsException IllegalStateException",
        "int come(int) IndexOutOfBoundsException IllegalStateException",
        "int compromise(int) IndexOutOfBoundsException",
        "int member(int, int)",
        "boolean holds(int, int)",
        "boolean has(int)",
        "int node(int, int, int)",
        "int epoch(int, int)",
        "int epochs()",
        "int waiting()",
        "boolean isKnown(int)",
        "boolean isOpen(int, int)",
        "int known()"));

    public static void main(String[] args) {
        Checks checks = new Checks("FaceTest");
        Class<?> face = RatchetGroup.class;
        checks.yes("public final", Modifier.isPublic(face.getModifiers()) && Modifier.isFinal(face.getModifiers()));
        Set<String> shown = new TreeSet<>();
        Set<String> names = new TreeSet<>();
        for (Method m : face.getDeclaredMethods()) {
            if (!Modifier.isPrivate(m.getModifiers())) {
                shown.add(told(m));
                names.add(m.getName());
            }
        }
        System.out.print(shown.equals(METHODS) ? "" : "shown: " + shown + "\n");
        checks.yes("methods", shown.equals(METHODS));
        for (Method m : face.getDeclaredMethods()) {
            checks.no("private " + m.getName(), Modifier.isPrivate(m.getModifiers()) && names.contains(m.getName()));
        }
        for (Field f : face.getDeclaredFields()) {
            checks.yes("field " + f.getName(), Modifier.isPrivate(f.getModifiers()) != f.getName().equals("NONE"));
            checks.yes("static " + f.getName(), !Modifier.isStatic(f.getModifiers()) || Modifier.isFinal(f.getModifiers()));
        }
        Constructor<?>[] constructors = face.getDeclaredConstructors();
        checks.due("constructors", constructors.length, 1);
        checks.yes("constructor", Modifier.isPublic(constructors[0].getModifiers())
            && constructors[0].getParameterCount() == 0);
        for (Class<?> c : face.getDeclaredClasses()) {
            checks.yes("class " + c.getSimpleName(), Modifier.isStatic(c.getModifiers()) && !Modifier.isPublic(c.getModifiers()));
        }
        checks.due("NONE", RatchetGroup.NONE, -1);
        checks.end();
    }

    private static String told(Method m) {
        StringBuilder text = new StringBuilder();
        text.append(m.getReturnType().getSimpleName()).append(' ').append(m.getName()).append('(');
        for (int i = 0; i < m.getParameterCount(); i++) {
            text.append(i == 0 ? "" : ", ").append(m.getParameterTypes()[i].getSimpleName());
        }
        text.append(')');
        for (Class<?> e : m.getExceptionTypes()) {
            text.append(' ').append(e.getSimpleName());
        }
        return text.toString();
    }
}
