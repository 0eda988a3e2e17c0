import java.lang.reflect.InvocationTargetException;
import java.lang.reflect.Method;
import java.lang.reflect.Modifier;
import java.util.HashMap;
import java.util.Map;
import java.util.NoSuchElementException;
import java.util.Set;

/** A call of the face told as a text: "love(0, 31)", "bid(1, 2, 3, true)", "sail(MAX)". */
final class Call {
    private static final Map<String, Method> FACE = face();

    private final Method method;
    private final Object[] values;

    private Call(Method method, Object[] values) {
        this.method = method;
        this.values = values;
    }

    private static Map<String, Method> face() {
        Map<String, Method> found = new HashMap<>();
        for (Method m : SworeCaptain.class.getDeclaredMethods()) {
            if (Modifier.isPublic(m.getModifiers())) {
                found.put(m.getName(), m);
            }
        }
        return found;
    }

    static Call of(String text) {
        int open = text.indexOf('(');
        Method method = FACE.get(text.substring(0, open));
        String inside = text.substring(open + 1, text.length() - 1);
        String[] words = inside.isEmpty() ? new String[0] : inside.split(", ");
        if (method == null || method.getParameterCount() != words.length) {
            throw new IllegalStateException("no such call: " + text);
        }
        Object[] values = new Object[words.length];
        for (int i = 0; i < words.length; i++) {
            values[i] = value(words[i]);
        }
        return new Call(method, values);
    }

    static Set<String> names() {
        return FACE.keySet();
    }

    /** The call with 1 for every number: within the bounds of those that have any but years. */
    static Call plainest(String name) {
        Method method = FACE.get(name);
        if (method == null) {
            throw new IllegalStateException("no such call: " + name);
        }
        Object[] values = new Object[method.getParameterCount()];
        for (int i = 0; i < values.length; i++) {
            values[i] = method.getParameterTypes()[i] == boolean.class ? (Object) true : (Object) 1;
        }
        return new Call(method, values);
    }

    private static Object value(String word) {
        switch (word) {
            case "true": return true;
            case "false": return false;
            case "MIN": return Integer.MIN_VALUE;
            case "MAX": return Integer.MAX_VALUE;
            default: return Integer.valueOf(word);
        }
    }

    /** The answer, a boolean as 1 or 0; Check.THROWS if the call throws NoSuchElementException. */
    long on(SworeCaptain x) {
        try {
            Object answer = method.invoke(x, values);
            return answer instanceof Boolean b ? b ? 1 : 0 : ((Number) answer).longValue();
        } catch (InvocationTargetException e) {
            if (e.getCause() instanceof NoSuchElementException) {
                return Check.THROWS;
            }
            throw new IllegalStateException(method.getName() + " threw what it may not", e.getCause());
        } catch (IllegalAccessException e) {
            throw new IllegalStateException(e);
        }
    }
}
