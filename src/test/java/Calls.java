import java.lang.reflect.InvocationTargetException;
import java.lang.reflect.Method;
import java.lang.reflect.Modifier;
import java.util.ArrayList;
import java.util.Comparator;
import java.util.HashMap;
import java.util.List;
import java.util.Map;

/** Calls by name, on RangingStation and on Model alike, and their answers as texts. */
final class Calls {
    private static final Map<Class<?>, Map<String, Method>> METHODS = new HashMap<>();

    private Calls() {
    }

    /** The methods of the face, in the order of their names. */
    static List<Method> face() {
        List<Method> face = new ArrayList<>(methods(RangingStation.class).values());
        face.sort(Comparator.comparing(Method::getName));
        return face;
    }

    static Method named(Class<?> type, String name) {
        Method found = methods(type).get(name);
        if (found == null) {
            throw new IllegalStateException("no method " + name);
        }
        return found;
    }

    /** The answer as a text; "nothing" of a void method, and "throws" with the name of the class otherwise. */
    static String answer(Object of, String name, Object... values) {
        try {
            Object got = named(of.getClass(), name).invoke(of, values);
            return got == null ? "nothing" : got.toString();
        } catch (InvocationTargetException e) {
            return "throws " + e.getCause().getClass().getName();
        } catch (IllegalAccessException e) {
            throw new IllegalStateException(name, e);
        }
    }

    /** A call told as its name and its arguments, all parted by single spaces. */
    static String told(Object of, String call) {
        String[] parts = call.split(" ");
        Class<?>[] types = named(of.getClass(), parts[0]).getParameterTypes();
        Object[] values = new Object[types.length];
        for (int i = 0; i < types.length; i++) {
            values[i] = value(types[i], Long.parseLong(parts[i + 1]));
        }
        return answer(of, parts[0], values);
    }

    static Object value(Class<?> type, long value) {
        return type == int.class ? (Object) Math.toIntExact(value) : (Object) value;
    }

    private static Map<String, Method> methods(Class<?> type) {
        return METHODS.computeIfAbsent(type, Calls::publicMethods);
    }

    private static Map<String, Method> publicMethods(Class<?> type) {
        Map<String, Method> all = new HashMap<>();
        for (Method method : type.getDeclaredMethods()) {
            if (Modifier.isPublic(method.getModifiers())) {
                all.put(method.getName(), method);
            }
        }
        return all;
    }
}
