import java.lang.reflect.Constructor;
import java.lang.reflect.Field;
import java.lang.reflect.Method;
import java.lang.reflect.Modifier;
import java.util.Arrays;
import java.util.List;
import java.util.TreeSet;

/** The face is the document's, with nothing beside it (rules 1, 2 and 5 of LANGUAGE.md). */
public final class FaceTest {
    private static final String INDEX = "java.lang.IndexOutOfBoundsException";
    private static final String ARGUMENT = "java.lang.IllegalArgumentException";
    private static final String STATE = "java.lang.IllegalStateException";
    private static final String NO_ELEMENT = "java.util.NoSuchElementException";

    private static final List<String> METHODS = List.of(
            method("entry", 3, ARGUMENT, STATE), method("water", 2, INDEX, ARGUMENT),
            method("yarn", 3, INDEX, ARGUMENT), method("apart", 2, INDEX),
            method("bath", 2, INDEX, STATE), method("freshen", 1, INDEX), method("strength", 1, INDEX),
            method("order", 3, INDEX, ARGUMENT, STATE), method("place", 1, INDEX, STATE, NO_ELEMENT),
            method("dye", 2, INDEX, ARGUMENT, STATE), method("claim", 1, INDEX, STATE),
            method("stateOf", 1, INDEX), method("colour", 2, INDEX, STATE),
            method("colourByBath", 2, INDEX, STATE), method("blamed", 2, INDEX, ARGUMENT),
            method("shrinks", 2, INDEX, ARGUMENT), method("give", 4, INDEX, ARGUMENT, STATE),
            method("owes", 3, INDEX), method("position", 2, INDEX), method("net", 1, INDEX));

    private static final List<String> CONSTANTS = List.of("NONE = -1", "WAITING = 0", "DYED = 1", "CLAIMED = 2",
            "BATH = 0", "WATER = 1", "YARN = 2");

    private static final Checks checks = new Checks();

    private static String method(String name, int parameters, String... exceptions) {
        return name + " " + parameters + " " + List.of(exceptions);
    }

    public static void main(String[] args) throws IllegalAccessException {
        checks.begin("the face");
        Class<?> ring = DyeRing.class;
        checks.same("the class's modifiers", Modifier.toString(ring.getModifiers()), "public final");
        checks.same("what it extends", ring.getSuperclass().getName(), "java.lang.Object");
        checks.same("what it implements", Arrays.toString(ring.getInterfaces()), "[]");
        constructors(ring);
        methods(ring);
        fields(ring);
        insides(ring);
        checks.end("FaceTest");
    }

    private static void constructors(Class<?> ring) {
        checks.same("the constructors", Arrays.toString(ring.getDeclaredConstructors()), "[public DyeRing()]");
        for (Constructor<?> constructor : ring.getDeclaredConstructors()) {
            checks.same("what it throws", Arrays.toString(constructor.getExceptionTypes()), "[]");
        }
    }

    private static void methods(Class<?> ring) {
        TreeSet<String> found = new TreeSet<>();
        TreeSet<String> names = new TreeSet<>();
        for (Method method : ring.getDeclaredMethods()) {
            if (Modifier.isPrivate(method.getModifiers())) {
                continue;
            }
            checks.same(method.getName() + "'s modifiers", Modifier.toString(method.getModifiers()), "public");
            checks.same(method.getName() + "'s answer", method.getReturnType().getName(), "int");
            for (Class<?> type : method.getParameterTypes()) {
                checks.same("a parameter of " + method.getName(), type.getName(), "int");
            }
            String[] exceptions = Arrays.stream(method.getExceptionTypes()).map(Class::getName).toArray(String[]::new);
            found.add(method(method.getName(), method.getParameterCount(), exceptions));
            names.add(method.getName());
        }
        checks.same("the methods", found.toString(), new TreeSet<>(METHODS).toString());
        for (Method method : ring.getDeclaredMethods()) {
            boolean shadows = Modifier.isPrivate(method.getModifiers()) && names.contains(method.getName());
            checks.same("a private method named " + method.getName(), String.valueOf(shadows), "false");
        }
    }

    private static void fields(Class<?> ring) throws IllegalAccessException {
        TreeSet<String> found = new TreeSet<>();
        for (Field field : ring.getDeclaredFields()) {
            String modifiers = Modifier.toString(field.getModifiers());
            if (modifiers.contains("static")) {
                checks.same("the static field " + field.getName() + " is final",
                        String.valueOf(modifiers.contains("final")), "true");
            }
            if (!modifiers.contains("private")) {
                checks.same(field.getName() + "'s modifiers", modifiers, "public static final");
                checks.same(field.getName() + "'s type", field.getType().getName(), "int");
                found.add(field.getName() + " = " + field.getInt(null));
            }
        }
        checks.same("the constants", found.toString(), new TreeSet<>(CONSTANTS).toString());
    }

    private static void insides(Class<?> ring) {
        for (Class<?> inside : ring.getDeclaredClasses()) {
            int modifiers = inside.getModifiers();
            boolean hidden = !Modifier.isPublic(modifiers) && !Modifier.isProtected(modifiers);
            checks.same(inside.getName() + " is static and hidden",
                    String.valueOf(hidden && Modifier.isStatic(modifiers)), "true");
        }
    }
}
