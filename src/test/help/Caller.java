import java.lang.reflect.Method;
import java.lang.reflect.Modifier;
import java.util.Map;
import java.util.TreeMap;

/** Makes a call of NoSquare that is told as a text: its name and its arguments. */
final class Caller {
    static final Map<String, Method> CALLS = new TreeMap<>();

    static {
        for (Method m : NoSquare.class.getDeclaredMethods()) {
            if (Modifier.isPublic(m.getModifiers())) {
                CALLS.put(m.getName(), m);
            }
        }
    }

    private Caller() {
    }

    static long call(NoSquare x, String name, String... arguments) throws Exception {
        Method m = CALLS.get(name);
        if (m == null || m.getParameterCount() != arguments.length) {
            throw new IllegalArgumentException("no such call: " + name + " of " + arguments.length);
        }
        Object[] values = new Object[arguments.length];
        for (int i = 0; i < values.length; i++) {
            values[i] = value(m.getParameterTypes()[i], arguments[i]);
        }
        return ((Number) m.invoke(x, values)).longValue();
    }

    private static Object value(Class<?> type, String told) {
        if (type == boolean.class) {
            return told.equals("true") || told.equals("1");
        }
        if (type == long.class) {
            return Long.decode(told.replace("L", ""));
        }
        return Integer.decode(told);
    }
}
