import java.lang.reflect.Constructor;
import java.lang.reflect.Field;
import java.lang.reflect.Member;
import java.lang.reflect.Method;
import java.lang.reflect.Modifier;
import java.util.Arrays;
import java.util.Set;
import java.util.TreeSet;

/** The class has the document's face, and none but private members beside it. */
public final class FaceTest {
    private static final String ILLEGAL = " throws IllegalArgumentException";
    private static final String BOTH = " throws IllegalArgumentException IllegalStateException";
    private static final String MISSING = " throws NoSuchElementException";
    private static final Set<String> METHODS = Set.of(
        "int system(int int)" + BOTH,
        "int limit(int int)" + ILLEGAL,
        "void port(int int int int)" + ILLEGAL,
        "void manner(int int boolean boolean)" + ILLEGAL,
        "void plug(int int int int)" + BOTH,
        "void pull(int)" + BOTH,
        "void light(int boolean)" + BOTH,
        "void lose(int int int)" + ILLEGAL,
        "int tick(int)" + ILLEGAL,
        "int give(int int int int)" + ILLEGAL,
        "int came(int int int)" + MISSING,
        "int look(int int int)" + MISSING,
        "int cable(int int)" + MISSING,
        "int note(int int int)",
        "int count(int)");

    private FaceTest() {
    }

    public static void main(String[] args) {
        Class<BundlePair> face = BundlePair.class;
        dueTrue("public and final", Modifier.isPublic(face.getModifiers()) && Modifier.isFinal(face.getModifiers()));
        checkMethods(face);
        checkConstructors(face);
        checkFields(face);
        for (Class<?> inner : face.getDeclaredClasses()) {
            dueTrue(inner + " is static", Modifier.isStatic(inner.getModifiers()));
            dueTrue(inner + " is not public", !Modifier.isPublic(inner.getModifiers()));
            checkNames(inner);
        }
        Checks.end();
    }

    private static void dueTrue(String what, boolean holds) {
        Checks.due(what, holds ? 1 : 0, 1);
    }

    private static boolean isPrivate(Member member) {
        return Modifier.isPrivate(member.getModifiers());
    }

    private static String join(Class<?>[] types) {
        return String.join(" ", Arrays.stream(types).map(Class::getSimpleName).toList());
    }

    private static String describe(Method m) {
        String thrown = join(m.getExceptionTypes());
        return m.getReturnType().getSimpleName() + " " + m.getName() + "(" + join(m.getParameterTypes()) + ")"
            + (thrown.isEmpty() ? "" : " throws " + thrown);
    }

    private static void checkMethods(Class<?> face) {
        Set<String> found = new TreeSet<>();
        for (Method m : face.getDeclaredMethods()) {
            if (!isPrivate(m)) {
                found.add(describe(m));
                dueTrue(m + " is public", Modifier.isPublic(m.getModifiers()));
            }
        }
        dueTrue("the methods are " + found, found.equals(METHODS));
        checkNames(face);
    }

    private static void checkNames(Class<?> type) {
        for (Method m : type.getDeclaredMethods()) {
            boolean named = METHODS.stream().anyMatch(d -> d.contains(" " + m.getName() + "("));
            dueTrue(m + " bears no public name", Modifier.isPublic(m.getModifiers()) || !named);
        }
    }

    private static void checkConstructors(Class<?> face) {
        Constructor<?>[] made = face.getDeclaredConstructors();
        Checks.due("constructors", made.length, 1);
        dueTrue("a public constructor", Modifier.isPublic(made[0].getModifiers()));
        Checks.due("its parameters", made[0].getParameterCount(), 0);
    }

    private static void checkFields(Class<?> face) {
        for (Field f : face.getDeclaredFields()) {
            boolean none = f.getName().equals("NONE");
            dueTrue(f + " is private, or NONE", none ? Modifier.isPublic(f.getModifiers()) : isPrivate(f));
            dueTrue(f + " is no changing static", !Modifier.isStatic(f.getModifiers()) || Modifier.isFinal(f.getModifiers()));
        }
    }
}
