import java.lang.reflect.Constructor;
import java.lang.reflect.Field;
import java.lang.reflect.Method;
import java.lang.reflect.Modifier;
import java.util.Set;
import java.util.TreeSet;

/** The public face: the class, its constants, its constructor and its methods, and nothing else. */
final class FaceTests {
    private static final String[] METHODS = {
        "int pass(int) IllegalArgumentException IllegalStateException",
        "int act() IllegalStateException",
        "void terms(int int int int) IndexOutOfBoundsException IllegalArgumentException",
        "int word(int boolean) IllegalArgumentException IllegalStateException",
        "int enact(int int int) IndexOutOfBoundsException IllegalArgumentException IllegalStateException",
        "int instruct(int int int int) IndexOutOfBoundsException IllegalArgumentException IllegalStateException",
        "void order(int int) IndexOutOfBoundsException IllegalArgumentException IllegalStateException",
        "void strike(int int) IndexOutOfBoundsException IllegalArgumentException IllegalStateException",
        "void suspend(int int int) IndexOutOfBoundsException IllegalArgumentException IllegalStateException",
        "int look(int int int) IllegalArgumentException",
        "int provisionAt(int) IndexOutOfBoundsException",
        "int label(int) IndexOutOfBoundsException",
        "int parent(int) IndexOutOfBoundsException",
        "int words(int) IndexOutOfBoundsException",
        "int wordAt(int int) IndexOutOfBoundsException",
        "int wordAnew(int int) IndexOutOfBoundsException",
        "int origin(int int) IndexOutOfBoundsException",
        "int refers(int int) IndexOutOfBoundsException",
        "int state(int) IndexOutOfBoundsException",
        "int commences(int) IndexOutOfBoundsException",
        "int conflicts()",
        "long print()",
    };
    private static final String[] CONSTANTS = {
        "NONE -1", "ENACT 0", "INSERT 1", "SUBSTITUTE 2", "OMIT 3", "RENUMBER 4", "MOVE 5", "REPEAL 6", "AMEND 7",
        "ON_DAY 0", "BY_ORDER 1", "WITH 2", "IDLE 0", "DONE 1", "FAILED 2",
    };

    private static String told(Method method) {
        StringBuilder text = new StringBuilder();
        text.append(method.getReturnType().getSimpleName()).append(' ').append(method.getName()).append('(');
        Class<?>[] parameters = method.getParameterTypes();
        for (int k = 0; k < parameters.length; k++) {
            text.append(k == 0 ? "" : " ").append(parameters[k].getSimpleName());
        }
        text.append(')');
        for (Class<?> thrown : method.getExceptionTypes()) {
            text.append(' ').append(thrown.getSimpleName());
        }
        return text.toString();
    }

    private static void same(String what, Set<String> got, String[] due) {
        Set<String> wanted = new TreeSet<>(java.util.Arrays.asList(due));
        Check.holds(what + " are " + got + ", due are " + wanted, got.equals(wanted));
    }

    private static void methods() {
        Set<String> got = new TreeSet<>();
        Set<String> names = new TreeSet<>();
        for (Method method : Amendmark.class.getDeclaredMethods()) {
            if (!Modifier.isPrivate(method.getModifiers())) {
                Check.holds(method.getName() + " is public and no more",
                    method.getModifiers() == Modifier.PUBLIC);
                got.add(told(method));
                names.add(method.getName());
            }
        }
        same("the methods", got, METHODS);
        for (Method method : Amendmark.class.getDeclaredMethods()) {
            Check.holds("no private method bears the name " + method.getName(),
                !Modifier.isPrivate(method.getModifiers()) || !names.contains(method.getName()));
        }
    }

    private static void constants() throws IllegalAccessException {
        Set<String> got = new TreeSet<>();
        for (Field field : Amendmark.class.getDeclaredFields()) {
            if (!Modifier.isPrivate(field.getModifiers())) {
                Check.holds(field.getName() + " is a public constant",
                    field.getModifiers() == (Modifier.PUBLIC | Modifier.STATIC | Modifier.FINAL));
                Check.holds(field.getName() + " is an int", field.getType() == int.class);
                got.add(field.getName() + " " + field.getInt(null));
            } else if (Modifier.isStatic(field.getModifiers())) {
                Check.holds(field.getName() + " is final", Modifier.isFinal(field.getModifiers()));
            }
        }
        same("the constants", got, CONSTANTS);
    }

    private static void classes() {
        Check.same("the class's modifiers", Amendmark.class.getModifiers(), Modifier.PUBLIC | Modifier.FINAL);
        Constructor<?>[] constructors = Amendmark.class.getDeclaredConstructors();
        Check.same("constructors", constructors.length, 1);
        Check.same("the constructor's modifiers", constructors[0].getModifiers(), Modifier.PUBLIC);
        Check.same("the constructor's parameters", constructors[0].getParameterCount(), 0);
        for (Class<?> inner : Amendmark.class.getDeclaredClasses()) {
            Check.holds(inner.getSimpleName() + " is static, and not public or protected",
                Modifier.isStatic(inner.getModifiers()) && !Modifier.isPublic(inner.getModifiers())
                && !Modifier.isProtected(inner.getModifiers()));
            Check.holds(inner.getSimpleName() + " has some twenty fields", inner.getDeclaredFields().length <= 20);
            parameters(inner);
        }
        parameters(Amendmark.class);
    }

    private static void parameters(Class<?> of) {
        for (Method method : of.getDeclaredMethods()) {
            Check.holds(method.getName() + " takes at most seven", method.getParameterCount() <= 7);
        }
        for (Constructor<?> constructor : of.getDeclaredConstructors()) {
            Check.holds(of.getSimpleName() + " takes at most seven", constructor.getParameterCount() <= 7);
        }
    }

    public static void main(String[] args) throws IllegalAccessException {
        methods();
        constants();
        classes();
        Check.end();
    }
}
