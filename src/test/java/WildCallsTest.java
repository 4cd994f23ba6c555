import java.lang.reflect.InvocationTargetException;
import java.lang.reflect.Method;
import java.lang.reflect.Modifier;
import java.util.ArrayList;
import java.util.Arrays;
import java.util.Comparator;
import java.util.List;

/** Whatever the arguments, and far behind the 512th call: nothing is thrown but what the face declares. */
public final class WildCallsTest {
    private static final int[] ARGUMENTS = {Integer.MIN_VALUE, -100000, -99999, -2, -1, 0, 1, 2, 3, 5, 11, 12, 13, 199,
        200, 512, 998, 999, 1000, 9998, 9999, 10000, 99999, 100000, Integer.MAX_VALUE - 1, Integer.MAX_VALUE};
    private static long seed = 20261119;

    private static int below(int bound) {
        seed = seed * 6364136223846793005L + 1442695040888963407L;
        return (int) Long.remainderUnsigned(seed >>> 17, bound);
    }

    private static Object[] argumentsFor(Method method) {
        Object[] arguments = new Object[method.getParameterCount()];
        for (int n = 0; n < arguments.length; n++) {
            arguments[n] = below(3) == 0 ? ARGUMENTS[below(ARGUMENTS.length)] : below(13) - 1;
        }
        return arguments;
    }

    private static String verdict(Calibratory x, Method method, Object[] arguments) throws IllegalAccessException {
        try {
            method.invoke(x, arguments);
            return "fine";
        } catch (InvocationTargetException thrown) {
            boolean declared = Arrays.asList(method.getExceptionTypes()).contains(thrown.getCause().getClass());
            return declared ? "fine" : thrown.getCause().toString();
        }
    }

    private static void wildRun(Checks checks, List<Method> methods, int calls) throws IllegalAccessException {
        Calibratory x = new Calibratory();
        for (int n = 0; n < calls; n++) {
            Method method = methods.get(below(methods.size()));
            Object[] arguments = argumentsFor(method);
            checks.due(method.getName() + Arrays.toString(arguments), verdict(x, method, arguments), "fine");
        }
    }

    private static void daysBehindAllBounds(Checks checks, List<Method> methods) throws IllegalAccessException {
        Calibratory x = new Calibratory();
        x.tell(-1, 1, 999, 999);
        x.calibrate(0, 0, 99999);
        for (int n = 0; n < 5000000; n++) {
            x.pass(999);
            if (n % 500000 == 0) x.calibrate(0, -99999, 99999);
        }
        for (int n = 0; n < 5000; n++) {
            Method method = methods.get(below(methods.size()));
            Object[] arguments = argumentsFor(method);
            checks.due(method.getName() + Arrays.toString(arguments), verdict(x, method, arguments), "fine");
        }
    }

    public static void main(String[] args) throws IllegalAccessException {
        Checks checks = new Checks("WildCallsTest");
        List<Method> methods = new ArrayList<>();
        for (Method method : Calibratory.class.getDeclaredMethods()) {
            if (Modifier.isPublic(method.getModifiers())) methods.add(method);
        }
        methods.sort(Comparator.comparing(Method::getName));
        for (int run = 0; run < 200; run++) wildRun(checks, methods, 512);
        for (int run = 0; run < 20; run++) wildRun(checks, methods, 20000);
        daysBehindAllBounds(checks, methods);
        checks.end();
    }
}
