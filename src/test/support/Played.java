import java.lang.reflect.InvocationTargetException;
import java.lang.reflect.Method;
import java.lang.reflect.Modifier;
import java.util.HashMap;
import java.util.Map;

/** An object with its calls counted, since nothing is promised of it behind the 512th. */
final class Played {
    private static final int MOST_CALLS = 512;
    private static final Map<String, Method> METHODS = new HashMap<>();

    static {
        for (Method m : DoorTears.class.getDeclaredMethods()) {
            if (Modifier.isPublic(m.getModifiers())) {
                METHODS.put(m.getName(), m);
            }
        }
    }

    private final DoorTears x = new DoorTears();
    private int calls = 0;

    int call(String name, int... arguments) {
        calls++;
        if (calls > MOST_CALLS) {
            throw new IllegalStateException("the test makes more than " + MOST_CALLS + " calls on one object");
        }
        Method method = METHODS.get(name);
        Object[] row = new Object[arguments.length];
        for (int i = 0; i < row.length; i++) {
            row[i] = arguments[i];
        }
        try {
            return (Integer) method.invoke(x, row);
        } catch (InvocationTargetException e) {
            throw new IllegalStateException(name + " threw", e.getCause());
        } catch (ReflectiveOperationException e) {
            throw new IllegalStateException(name + " can't be called", e);
        }
    }

    void write(String text) {
        for (int i = 0; i < text.length(); i++) {
            call("write", text.charAt(i));
        }
    }

    /** How many clauses were told, or that it was refused. */
    int tell(String text) {
        write(text);
        return call("lane");
    }
}
