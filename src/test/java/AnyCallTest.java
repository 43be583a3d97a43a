import java.lang.reflect.InvocationTargetException;
import java.lang.reflect.Method;
import java.lang.reflect.Modifier;

/** No call throws or fails to end, for any arguments in any state: every call at every stage with the edges of all. */
public final class AnyCallTest {
    private static final int[] EDGES = {Integer.MIN_VALUE, -1, 0, 1, 2, 5, 9, 10, 12, 16, 17, 20, 60, 99, 100, 400, 600,
            999, 1000, 9999, 10000, Integer.MAX_VALUE};
    // An object is used for at most 512 calls.
    private static final int CALLS_OF_ONE = 400;

    private static int made = 0;

    public static void main(String[] args) throws IllegalAccessException {
        for (int far = 0; far <= 5; far++) {
            for (Method method : RopeRace.class.getDeclaredMethods()) {
                if (Modifier.isPublic(method.getModifiers())) {
                    callAll(far, method);
                }
            }
        }
        Due.is("calls were made", made > 10000, true);
        Due.end();
    }

    private static void callAll(int far, Method method) throws IllegalAccessException {
        Class<?>[] types = method.getParameterTypes();
        // All of feed's numbers are alike, so the last two stay the same.
        int varied = Math.min(types.length, 3);
        int all = 1;
        for (int i = 0; i < varied; i++) {
            all *= EDGES.length;
        }
        RopeRace x = Due.stage(far);
        for (int number = 0; number < all; number++) {
            if (number % CALLS_OF_ONE == CALLS_OF_ONE - 1) {
                x = Due.stage(far);
            }
            call(x, method, arguments(types, varied, number));
        }
    }

    private static Object[] arguments(Class<?>[] types, int varied, int number) {
        Object[] arguments = new Object[types.length];
        int rest = number;
        for (int i = 0; i < types.length; i++) {
            int edge = i < varied ? EDGES[rest % EDGES.length] : 0;
            rest /= EDGES.length;
            if (types[i] == boolean.class) {
                arguments[i] = edge % 2 == 0;
            } else {
                arguments[i] = edge;
            }
        }
        return arguments;
    }

    private static void call(RopeRace x, Method method, Object[] arguments) throws IllegalAccessException {
        made++;
        try {
            method.invoke(x, arguments);
        } catch (InvocationTargetException thrown) {
            Due.is(method.getName() + java.util.Arrays.toString(arguments) + " threw " + thrown.getCause(), true, false);
        }
    }
}
