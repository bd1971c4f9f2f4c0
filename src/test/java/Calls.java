import java.lang.reflect.Method;
import java.lang.reflect.Modifier;
import java.util.HashMap;
import java.util.Map;

/**
 * Makes calls that are written as texts ("put 0 5 7") on one object, a TableOrders or a Reference.
 * NONE, least and most stand for -1 and for the ends of the parameter's type.
 */
final class Calls {
    /** The document leaves free what later calls answer, so that no test may ask for it. */
    private static final int MOST_CALLS = 512;

    private final Object target;
    private final Map<String, Method> methods = new HashMap<>();
    private int made;

    Calls(Object target) {
        this.target = target;
        for (Method each : TableOrders.class.getDeclaredMethods()) {
            if (Modifier.isPublic(each.getModifiers())) {
                methods.put(each.getName(), sameOf(target.getClass(), each));
            }
        }
    }

    private static Method sameOf(Class<?> type, Method method) {
        try {
            Method same = type.getDeclaredMethod(method.getName(), method.getParameterTypes());
            same.setAccessible(true);
            return same;
        } catch (NoSuchMethodException missing) {
            throw new IllegalStateException(missing);
        }
    }

    long make(String call) {
        String[] words = call.trim().split(" +");
        Method method = methods.get(words[0]);
        if (method == null || method.getParameterCount() != words.length - 1) {
            throw new IllegalArgumentException("no such call: " + call);
        }
        made++;
        if (made > MOST_CALLS) {
            throw new IllegalStateException("a test makes more than 512 calls on one object: " + call);
        }
        Object[] values = new Object[words.length - 1];
        for (int i = 0; i < values.length; i++) {
            values[i] = value(words[i + 1], method.getParameterTypes()[i] == long.class);
        }
        try {
            return ((Number) method.invoke(target, values)).longValue();
        } catch (ReflectiveOperationException thrown) {
            throw new IllegalStateException(call + " threw " + thrown.getCause(), thrown);
        }
    }

    private static Object value(String word, boolean isLong) {
        switch (word) {
            case "NONE":
                return isLong ? (Object) (long) TableOrders.NONE : (Object) TableOrders.NONE;
            case "least":
                return isLong ? (Object) Long.MIN_VALUE : (Object) Integer.MIN_VALUE;
            case "most":
                return isLong ? (Object) Long.MAX_VALUE : (Object) Integer.MAX_VALUE;
            default:
                return isLong ? (Object) Long.valueOf(word) : (Object) Integer.valueOf(word);
        }
    }
}
