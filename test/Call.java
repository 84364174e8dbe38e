import java.lang.reflect.Method;
import java.util.HashMap;
import java.util.Map;

/** One call of the program's face, by its name and its numbers. */
final class Call {
    private static final Map<String, Method> FACE = new HashMap<>();

    static {
        for (Method method : NameRevisions.class.getDeclaredMethods()) {
            FACE.putIfAbsent(method.getName(), method);
        }
    }

    private final String name;
    private final long[] numbers;

    Call(String name, long... numbers) {
        this.name = name;
        this.numbers = numbers;
        if (!FACE.containsKey(name) || FACE.get(name).getParameterCount() != numbers.length) {
            throw new IllegalArgumentException("no such call: " + this);
        }
    }

    boolean is(String other) {
        return name.equals(other);
    }

    long on(NameRevisions x) {
        Method method = FACE.get(name);
        Class<?>[] types = method.getParameterTypes();
        Object[] values = new Object[types.length];
        for (int i = 0; i < values.length; i++) {
            values[i] = types[i] == long.class ? (Object) numbers[i] : (Object) Math.toIntExact(numbers[i]);
        }
        try {
            return ((Number) method.invoke(x, values)).longValue();
        } catch (ReflectiveOperationException fault) {
            throw new IllegalStateException(this + " threw", fault);
        }
    }

    @Override
    public String toString() {
        StringBuilder words = new StringBuilder(name).append('(');
        for (int i = 0; i < numbers.length; i++) {
            words.append(i == 0 ? "" : ", ").append(numbers[i]);
        }
        return words.append(')').toString();
    }
}
