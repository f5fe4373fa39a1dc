import java.lang.reflect.InvocationTargetException;
import java.lang.reflect.Method;
import java.lang.reflect.Modifier;
import java.util.Arrays;
import java.util.Comparator;
import java.util.List;

/** Calls of all methods with any arguments: what is thrown is exactly of a class that the document names there. */
public final class AnyArgumentsTest {
    private static final int RUNS = 200;
    private static final int CALLS = 2000;
    private static final int[] EXTREMES = {Integer.MIN_VALUE, Integer.MIN_VALUE + 1, -401, -1, 0, 1, 5, 9, 10, 11, 20, 24,
        59, 60, 61, 400, 401, 1000, Integer.MAX_VALUE - 1, Integer.MAX_VALUE};
    private static final String SIGNS = "flh;; 0123456789bin sack move";

    private long seed;

    private AnyArgumentsTest(long seed) {
        this.seed = seed;
    }

    public static void main(String[] args) throws IllegalAccessException {
        List<Method> methods = Arrays.stream(SighGranary.class.getDeclaredMethods())
                .filter(method -> Modifier.isPublic(method.getModifiers()))
                .sorted(Comparator.comparing(Method::getName)).toList();
        Check.same("methods", methods.size(), 60);
        for (int run = 0; run < RUNS; run++) {
            new AnyArgumentsTest(run).run(methods);
        }
        Check.end();
    }

    private void run(List<Method> methods) throws IllegalAccessException {
        SighGranary granary = new SighGranary();
        for (int call = 0; call < CALLS; call++) {
            Method method = methods.get(draw(methods.size()));
            Object[] arguments = new Object[method.getParameterCount()];
            for (int index = 0; index < arguments.length; index++) {
                arguments[index] = method.getParameterTypes()[index] == char.class ? (Object) aSign() : aNumber();
            }
            call(granary, method, arguments);
        }
    }

    private static void call(SighGranary granary, Method method, Object[] arguments) throws IllegalAccessException {
        try {
            method.invoke(granary, arguments);
        } catch (InvocationTargetException thrown) {
            Check.holds(method.getName() + Arrays.toString(arguments) + " throws " + thrown.getCause(),
                    Arrays.asList(method.getExceptionTypes()).contains(thrown.getCause().getClass()));
        }
    }

    private int draw(int bound) {
        seed = seed * 6364136223846793005L + 1442695040888963407L;
        return (int) Math.floorMod(seed >>> 33, (long) bound);
    }

    private int aNumber() {
        return draw(4) == 0 ? EXTREMES[draw(EXTREMES.length)] : draw(draw(2) == 0 ? 5 : 60);
    }

    private char aSign() {
        return draw(9) == 0 ? (char) draw(65536) : SIGNS.charAt(draw(SIGNS.length()));
    }
}
