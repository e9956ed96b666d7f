import java.lang.reflect.Field;
import java.lang.reflect.Method;
import java.util.HashMap;
import java.util.Map;

/** A call of the program, or a constant of it, as a row of a run tells it: "sail(0, 21)" or "NONE". */
final class Call {
    private static final Map<String, Method> METHODS = new HashMap<>();
    private static final Map<String, Integer> CONSTANTS = new HashMap<>();

    private final String text;
    private final Method method;
    private final Object[] arguments;
    private final int constant;

    private Call(String text, Method method, Object[] arguments, int constant) {
        this.text = text;
        this.method = method;
        this.arguments = arguments;
        this.constant = constant;
    }

    static Call of(String text) {
        readFace();
        int bracket = text.indexOf('(');
        if (bracket < 0) {
            return new Call(text, null, null, number(text));
        }
        Method method = METHODS.get(text.substring(0, bracket));
        String inside = text.substring(bracket + 1, text.lastIndexOf(')')).trim();
        String[] parts = inside.isEmpty() ? new String[0] : inside.split(" *, *");
        Object[] arguments = new Object[parts.length];
        for (int i = 0; i < parts.length; i++) {
            arguments[i] = number(parts[i]);
        }
        if (method == null || method.getParameterCount() != arguments.length) {
            throw new IllegalArgumentException("no such call: " + text);
        }
        return new Call(text, method, arguments, 0);
    }

    /** A number, or a constant of the program by its name. */
    static int number(String text) {
        readFace();
        Integer named = CONSTANTS.get(text);
        return named == null ? Integer.parseInt(text) : named;
    }

    int on(CountedShips game) {
        if (method == null) {
            return constant;
        }
        try {
            return (Integer) method.invoke(game.next(), arguments);
        } catch (ReflectiveOperationException e) {
            throw new IllegalStateException(text + " threw", e);
        }
    }

    @Override
    public String toString() {
        return text;
    }

    private static void readFace() {
        if (!METHODS.isEmpty()) {
            return;
        }
        try {
            for (Field field : WindCardShips.class.getFields()) {
                CONSTANTS.put(field.getName(), field.getInt(null));
            }
        } catch (IllegalAccessException e) {
            throw new IllegalStateException(e);
        }
        for (Method method : WindCardShips.class.getDeclaredMethods()) {
            METHODS.put(method.getName(), method);
        }
    }
}
