import java.lang.reflect.Constructor;
import java.lang.reflect.Field;
import java.lang.reflect.Method;
import java.lang.reflect.Modifier;
import java.util.Arrays;
import java.util.HashSet;
import java.util.Set;
import java.util.TreeSet;

/** The document's face, and rule 1 of LANGUAGE.md: nothing beside it can be seen from outside. */
public final class FaceTest {
    private static final String[] FACE = {
        "void begin(int) IllegalArgumentException",
        "int check()",
        "int clear()",
        "int code(int, int) IllegalArgumentException IllegalStateException",
        "int collect()",
        "int count(int) IllegalArgumentException",
        "int function(int, int) IllegalArgumentException IllegalStateException",
        "int kind(int, int) IndexOutOfBoundsException",
        "int pace(int) IllegalArgumentException",
        "int quantum(int) IllegalArgumentException",
        "int run(int) IllegalArgumentException IllegalStateException",
        "int state()",
        "int strand(int, int) IllegalArgumentException IndexOutOfBoundsException",
        "long digest()",
        "long operand(int, int) IndexOutOfBoundsException",
        "long take()"};

    private FaceTest() {
    }

    public static void main(String[] args) {
        Class<?> type = StrandRuntime.class;
        Due.is("public and final", type.getModifiers(), Modifier.PUBLIC | Modifier.FINAL);
        Set<String> due = new TreeSet<>(Arrays.asList(FACE));
        Set<String> names = new HashSet<>();
        for (Method m : type.getDeclaredMethods()) {
            if (Modifier.isPublic(m.getModifiers())) {
                String face = describe(m);
                Due.is("is of the face: " + face, due.remove(face) ? 1 : 0, 1);
                names.add(m.getName());
            } else {
                Due.is("private: " + m, Modifier.isPrivate(m.getModifiers()) ? 1 : 0, 1);
            }
        }
        Due.is("missing " + due, due.size(), 0);
        for (Constructor<?> c : type.getDeclaredConstructors()) {
            Due.is("constructor", c.getModifiers(), Modifier.PUBLIC);
            Due.is("parameters", c.getParameterCount(), 0);
        }
        for (Field f : type.getDeclaredFields()) {
            Due.is("private: " + f, Modifier.isPrivate(f.getModifiers()) ? 1 : 0, 1);
            Due.is("final: " + f, Modifier.isFinal(f.getModifiers()) ? 1 : 0, 1);
        }
        for (Class<?> inside : type.getDeclaredClasses()) {
            lookInto(inside, names);
        }
        Due.end("FaceTest");
    }

    private static void lookInto(Class<?> inside, Set<String> names) {
        Due.is("static: " + inside, Modifier.isStatic(inside.getModifiers()) ? 1 : 0, 1);
        Due.is("not public: " + inside, inside.getModifiers() & (Modifier.PUBLIC | Modifier.PROTECTED), 0);
        for (Method m : inside.getDeclaredMethods()) {
            Due.is("has no name of the face: " + m, names.contains(m.getName()) ? 1 : 0, 0);
        }
        for (Field f : inside.getDeclaredFields()) {
            boolean constant = !Modifier.isStatic(f.getModifiers()) || Modifier.isFinal(f.getModifiers());
            Due.is("static fields are final: " + f, constant ? 1 : 0, 1);
        }
    }

    private static String describe(Method m) {
        StringBuilder text = new StringBuilder();
        text.append(m.getReturnType().getSimpleName()).append(' ').append(m.getName()).append('(');
        for (int i = 0; i < m.getParameterCount(); i++) {
            text.append(i == 0 ? "" : ", ").append(m.getParameterTypes()[i].getSimpleName());
        }
        text.append(')');
        Set<String> thrown = new TreeSet<>();
        for (Class<?> e : m.getExceptionTypes()) {
            thrown.add(e.getSimpleName());
        }
        for (String e : thrown) {
            text.append(' ').append(e);
        }
        return text.toString();
    }
}
