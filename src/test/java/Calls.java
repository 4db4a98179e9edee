import java.lang.reflect.InvocationTargetException;
import java.lang.reflect.Method;
import java.lang.reflect.Modifier;
import java.util.Arrays;
import java.util.HashMap;
import java.util.Map;

/** Calls by their names, so that tests can hold them in tables. */
final class Calls {
    static final Class<?> NO_INDEX = IndexOutOfBoundsException.class;
    static final Class<?> BAD_ARGUMENT = IllegalArgumentException.class;
    static final Class<?> BAD_STATE = IllegalStateException.class;
    static final Class<?> UNSUPPORTED = UnsupportedOperationException.class;
    static final Class<?> NO_ELEMENT = java.util.NoSuchElementException.class;

    private static final Map<String, Method> METHODS = new HashMap<>();

    static {
        for (Method method : Carcasswright.class.getDeclaredMethods()) {
            if (Modifier.isPublic(method.getModifiers())) {
                METHODS.put(method.getName(), method);
            }
        }
    }

    /** What the call answers, or the class of what it throws: the machine's own exceptions are of other classes. */
    static Object answer(Carcasswright shop, String name, Object... arguments) {
        try {
            return METHODS.get(name).invoke(shop, arguments);
        } catch (InvocationTargetException e) {
            return e.getCause().getClass();
        } catch (IllegalAccessException e) {
            throw new IllegalStateException(e);
        }
    }

    static boolean isThrown(Object answer) {
        return answer instanceof Class;
    }

    static void due(Object due, Carcasswright shop, String name, Object... arguments) {
        Check.same(text(name, arguments), due, answer(shop, name, arguments));
    }

    static String text(String name, Object... arguments) {
        String inside = Arrays.toString(arguments);
        return name + "(" + inside.substring(1, inside.length() - 1) + ")";
    }

    private Calls() {
    }
}
