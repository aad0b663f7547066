import java.lang.reflect.InvocationTargetException;
import java.lang.reflect.Method;
import java.util.HashMap;
import java.util.Map;

/** Calls a factory's methods by name, so that the same run of calls can be put to two classes. */
final class Calls {
    private static final Map<Class<?>, Map<String, Method>> METHODS = new HashMap<>();

    private Calls() {
    }

    /** The answer as a text, a boolean as 1 or 0, or the name of what was thrown. */
    static String ask(Object factory, String name, int... arguments) {
        Method method = METHODS.computeIfAbsent(factory.getClass(), Calls::methodsOf).get(name);
        Class<?>[] types = method.getParameterTypes();
        Object[] values = new Object[types.length];
        for (int i = 0; i < types.length; i++) {
            values[i] = types[i] == boolean.class ? (Object) (arguments[i] != 0) : (Object) arguments[i];
        }
        try {
            Object answer = method.invoke(factory, values);
            if (answer instanceof Boolean) {
                return (Boolean) answer ? "1" : "0";
            }
            return answer == null ? "void" : answer.toString();
        } catch (InvocationTargetException e) {
            return e.getCause().getClass().getSimpleName();
        } catch (IllegalAccessException e) {
            throw new IllegalStateException(e);
        }
    }

    static String text(String name, int... arguments) {
        StringBuilder text = new StringBuilder(name).append('(');
        for (int i = 0; i < arguments.length; i++) {
            text.append(i == 0 ? "" : ", ").append(arguments[i]);
        }
        return text.append(')').toString();
    }

    private static Map<String, Method> methodsOf(Class<?> type) {
        Map<String, Method> methods = new HashMap<>();
        for (Method method : type.getDeclaredMethods()) {
            method.setAccessible(true);
            methods.put(method.getName(), method);
        }
        return methods;
    }
}
