import java.lang.reflect.InvocationTargetException;
import java.lang.reflect.Method;
import java.util.Arrays;

/** Calls by their names, so that each can be told as it was asked. */
final class Calls {
    private Calls() {
    }

    static long ask(TubSteps x, String name, int... values) {
        Object[] boxed = new Object[values.length];
        Class<?>[] types = new Class<?>[values.length];
        for (int i = 0; i < values.length; i++) {
            boxed[i] = values[i];
            types[i] = int.class;
        }
        try {
            Method method = TubSteps.class.getDeclaredMethod(name, types);
            return ((Number) method.invoke(x, boxed)).longValue();
        } catch (InvocationTargetException thrown) {
            throw new IllegalStateException(told(name, values) + " threw", thrown.getCause());
        } catch (ReflectiveOperationException none) {
            throw new IllegalStateException("no such call: " + told(name, values), none);
        }
    }

    static String told(String name, int... values) {
        String row = Arrays.toString(values);
        return name + "(" + row.substring(1, row.length() - 1) + ")";
    }
}
