import java.lang.reflect.Constructor;
import java.lang.reflect.Field;
import java.lang.reflect.Method;
import java.lang.reflect.Modifier;
import java.util.Arrays;
import java.util.HashSet;
import java.util.Set;
import java.util.TreeSet;

/** "The public face": the class has the document's methods, as they are written there, and shows nothing else. */
public final class FaceTest {
    private static final String[] FACE = {
        "int build() throws IllegalStateException",
        "int count(int)",
        "int end(int) throws IllegalArgumentException",
        "int fault(int) throws IllegalArgumentException",
        "int feed(int, int, int, int, int) throws IndexOutOfBoundsException",
        "int letter(int, int) throws NoSuchElementException",
        "int log(int) throws IndexOutOfBoundsException",
        "int run(int) throws IllegalArgumentException, IllegalStateException",
        "int told(int, int) throws IllegalArgumentException, NoSuchElementException",
        "long time()",
        "long value(int, int, int) throws IllegalArgumentException, NoSuchElementException",
        "void set(int, int, long, long) throws NoSuchElementException"};

    private static final Case FOUND = new Case("the face");

    public static void main(String[] args) {
        Class<SignalTheatre> face = SignalTheatre.class;
        yes("public and final", Modifier.isPublic(face.getModifiers()) && Modifier.isFinal(face.getModifiers()));
        yes("without a package", face.getPackageName().isEmpty());
        yes("no class above it", face.getSuperclass() == Object.class && face.getInterfaces().length == 0);
        constructors(face);
        Set<String> names = methods(face);
        for (Field field : face.getDeclaredFields()) {
            yes(field + " is private", Modifier.isPrivate(field.getModifiers()));
        }
        within(face, names);
        Case.close();
    }

    private static void yes(String what, boolean is) {
        FOUND.due(what, is ? 1 : 0, 1);
    }

    private static void constructors(Class<?> face) {
        Constructor<?>[] made = face.getDeclaredConstructors();
        yes("one constructor", made.length == 1);
        yes("public, without numbers", Modifier.isPublic(made[0].getModifiers()) && made[0].getParameterCount() == 0);
        yes("that throws nothing", made[0].getExceptionTypes().length == 0);
    }

    private static Set<String> methods(Class<?> face) {
        Set<String> names = new HashSet<>();
        Set<String> seen = new TreeSet<>();
        for (Method method : face.getDeclaredMethods()) {
            if (!Modifier.isPrivate(method.getModifiers()) && !method.isSynthetic()) {
                yes(method + " is public, of an object", Modifier.isPublic(method.getModifiers())
                        && !Modifier.isStatic(method.getModifiers()));
                names.add(method.getName());
                seen.add(written(method));
            }
        }
        FOUND.dueText("the methods", String.join("; ", seen), String.join("; ", new TreeSet<>(Arrays.asList(FACE))));
        return names;
    }

    private static String written(Method method) {
        String[] numbers = Arrays.stream(method.getParameterTypes()).map(Class::getSimpleName).toArray(String[]::new);
        String[] thrown = Arrays.stream(method.getExceptionTypes()).map(Class::getSimpleName).sorted().toArray(String[]::new);
        return method.getReturnType().getSimpleName() + " " + method.getName() + "(" + String.join(", ", numbers) + ")"
                + (thrown.length == 0 ? "" : " throws " + String.join(", ", thrown));
    }

    /** Classes inside are static and not to be seen; no state is shared; no other method bears a name of the face. */
    private static void within(Class<?> face, Set<String> names) {
        fieldsShareNothing(face);
        for (Method method : face.getDeclaredMethods()) {
            yes(method + " has a name of its own",
                    Modifier.isPublic(method.getModifiers()) || !names.contains(method.getName()));
        }
        for (Class<?> inner : face.getDeclaredClasses()) {
            yes(inner + " is static", Modifier.isStatic(inner.getModifiers()));
            yes(inner + " is not shown",
                    !Modifier.isPublic(inner.getModifiers()) && !Modifier.isProtected(inner.getModifiers()));
            fieldsShareNothing(inner);
            for (Method method : inner.getDeclaredMethods()) {
                yes(method + " has a name of its own", !names.contains(method.getName()));
                yes(method + " takes at most seven", method.getParameterCount() <= 7);
            }
        }
    }

    private static void fieldsShareNothing(Class<?> one) {
        for (Field field : one.getDeclaredFields()) {
            yes(field + " is not shared", !Modifier.isStatic(field.getModifiers()) || Modifier.isFinal(field.getModifiers()));
        }
    }
}
