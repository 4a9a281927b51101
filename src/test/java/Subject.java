import java.lang.reflect.InvocationTargetException;
import java.lang.reflect.Method;
import java.util.ArrayList;
import java.util.HashMap;
import java.util.List;
import java.util.Map;

/**
 * An object (of the class, or the Model) that is called by texts such as
 * "rate(0, 50)", with its calls counted: behind 512 its answers are free, so a
 * test that goes on behind them is itself wrong.
 */
final class Subject {
    static final int MOST_CALLS = 512;

    private static final Map<String, Method> METHODS = new HashMap<>();

    private final Object object;
    private int calls;

    private Subject(Object object) {
        this.object = object;
    }

    static Subject ofClass() {
        return new Subject(new KingRansom());
    }

    static Subject ofModel() {
        return new Subject(new Model());
    }

    int callsLeft() {
        return MOST_CALLS - calls;
    }

    int call(String call) {
        calls++;
        if (calls > MOST_CALLS) {
            throw new IllegalStateException("the test calls more than 512 times: " + call);
        }
        int open = call.indexOf('(');
        Method method = method(call.substring(0, open));
        try {
            return (Integer) method.invoke(object, arguments(call.substring(open + 1, call.length() - 1)));
        } catch (IllegalAccessException e) {
            throw new IllegalStateException(e);
        } catch (InvocationTargetException e) {
            throw new IllegalStateException(call + " threw " + e.getCause(), e);
        }
    }

    private Method method(String name) {
        return METHODS.computeIfAbsent(object.getClass().getName() + '.' + name, key -> find(name));
    }

    private Method find(String name) {
        for (Method m : object.getClass().getDeclaredMethods()) {
            if (m.getName().equals(name)) {
                m.setAccessible(true);
                return m;
            }
        }
        throw new IllegalStateException("no method " + name);
    }

    private static Object[] arguments(String list) {
        List<Object> values = new ArrayList<>();
        for (String part : list.isBlank() ? new String[0] : list.split(",")) {
            String word = part.trim();
            boolean isTruth = word.equals("true") || word.equals("false");
            values.add(isTruth ? (Object) Boolean.valueOf(word) : (Object) Integer.valueOf(word));
        }
        return values.toArray();
    }
}
