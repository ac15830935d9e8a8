import java.lang.reflect.Constructor;
import java.lang.reflect.Field;
import java.lang.reflect.Method;
import java.lang.reflect.Modifier;
import java.util.ArrayList;
import java.util.Arrays;
import java.util.Collections;
import java.util.HashSet;
import java.util.List;
import java.util.Set;

/** The public face: its members, and no other that is not private. */
public final class FaceTest {
    private static final String[] FACE = {
        "int append(int, int) IndexOutOfBoundsException IllegalArgumentException IllegalStateException",
        "int clear(int) IndexOutOfBoundsException",
        "int copy(int, int) IndexOutOfBoundsException",
        "int length(int) IndexOutOfBoundsException",
        "int at(int, int) IndexOutOfBoundsException",
        "int plan(int, int) IllegalArgumentException IllegalStateException",
        "int plans()",
        "int root(int) IndexOutOfBoundsException",
        "int ways(int) IndexOutOfBoundsException",
        "int forward(int, int, int) IndexOutOfBoundsException IllegalArgumentException IllegalStateException",
        "int backward(int, int, int) IndexOutOfBoundsException IllegalArgumentException IllegalStateException",
        "int sum(int, int, int) IndexOutOfBoundsException IllegalStateException",
        "int convolve(int, int, int, int) IndexOutOfBoundsException IllegalStateException",
        "int convolved(int, int, int, int) IndexOutOfBoundsException IllegalStateException",
        "int filter(int, int, int, int, boolean) IndexOutOfBoundsException IllegalArgumentException IllegalStateException",
        "int multiply(int, int, int) IndexOutOfBoundsException IllegalArgumentException IllegalStateException"};

    public static void main(String[] args) {
        Class<?> face = ButterflyYard.class;
        Expect.same("public final", Modifier.toString(face.getModifiers()), "the class");
        Expect.same("", face.getPackageName(), "the package of the class");
        Expect.same("class java.lang.Object", String.valueOf(face.getSuperclass()), "the class above the class");
        Expect.same("[]", Arrays.toString(face.getInterfaces()), "the interfaces of the class");
        members(face);
        nestedClasses(face);
        Expect.finish();
    }

    private static void members(Class<?> face) {
        List<String> due = new ArrayList<>(Arrays.asList(FACE));
        List<String> got = new ArrayList<>();
        for (Method method : face.getDeclaredMethods()) {
            if (!Modifier.isPrivate(method.getModifiers())) {
                Expect.same("public", Modifier.toString(method.getModifiers()), "the modifiers of " + method.getName());
                got.add(described(method));
            }
        }
        Collections.sort(due);
        Collections.sort(got);
        Expect.same(due.toString(), got.toString(), "the methods");
        Constructor<?>[] made = face.getDeclaredConstructors();
        Expect.same("[public ButterflyYard()]", Arrays.toString(made), "the constructors");
        for (Field field : face.getDeclaredFields()) {
            Expect.same("true", String.valueOf(Modifier.isPrivate(field.getModifiers())), "field " + field.getName() + " is private");
        }
    }

    private static String described(Method method) {
        StringBuilder text = new StringBuilder(method.getReturnType().getName());
        text.append(' ').append(method.getName()).append('(');
        for (int number = 0; number < method.getParameterCount(); number++) {
            text.append(number == 0 ? "" : ", ").append(method.getParameterTypes()[number].getName());
        }
        text.append(')');
        for (Class<?> thrown : method.getExceptionTypes()) {
            text.append(' ').append(thrown.getSimpleName());
        }
        return text.toString();
    }

    private static void nestedClasses(Class<?> face) {
        Set<String> names = new HashSet<>();
        for (Method method : face.getDeclaredMethods()) {
            if (Modifier.isPublic(method.getModifiers())) {
                names.add(method.getName());
            }
        }
        for (Class<?> nested : face.getDeclaredClasses()) {
            Expect.same("private static final", Modifier.toString(nested.getModifiers()), nested.getSimpleName());
            for (Method method : nested.getDeclaredMethods()) {
                Expect.same("false", String.valueOf(names.contains(method.getName())), method + " bears a public name");
            }
            for (Field field : nested.getDeclaredFields()) {
                boolean state = Modifier.isStatic(field.getModifiers()) && !Modifier.isFinal(field.getModifiers());
                Expect.same("false", String.valueOf(state), field + " is static state");
            }
        }
    }
}
