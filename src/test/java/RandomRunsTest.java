import java.lang.reflect.InvocationTargetException;
import java.lang.reflect.Method;
import java.util.ArrayList;
import java.util.Arrays;
import java.util.Comparator;
import java.util.List;

/** All promises: seeded runs of calls, each answer compared with the one of PlainKeeper. */
public final class RandomRunsTest {
    private static final int RUNS = 4000;
    private static final int MOST_CALLS = 511; // and the constructor
    private static final String[] CHANGES = {"tell", "refer", "pass", "calibrate", "measure"};

    private final Method[] asked;
    private final Method[] changes = new Method[CHANGES.length];
    private final List<String> calls = new ArrayList<>();
    private long seed;
    private Calibratory tested;
    private PlainKeeper plain;
    // How a run leans: what is told, found and passed, so that some runs keep trust and some lose it.
    private int longDays, tolerances, errors, referWeight, calibrateWeight, measureWeight;

    private RandomRunsTest() throws NoSuchMethodException {
        List<Method> asking = new ArrayList<>();
        for (Method each : Calibratory.class.getDeclaredMethods()) {
            int change = Arrays.asList(CHANGES).indexOf(each.getName());
            if (!java.lang.reflect.Modifier.isPublic(each.getModifiers())) continue;
            if (change >= 0) changes[change] = each;
            else asking.add(each);
        }
        asking.sort(Comparator.comparing(Method::getName));
        asked = asking.toArray(new Method[0]);
    }

    private int below(int bound) {
        seed = seed * 6364136223846793005L + 1442695040888963407L;
        return (int) Long.remainderUnsigned(seed >>> 17, bound);
    }

    private int between(int least, int most) {
        return least + below(most - least + 1);
    }

    private int edge(int least, int most) {
        int[] edges = {least - 1, least, most, most + 1, Integer.MIN_VALUE, Integer.MAX_VALUE};
        return edges[below(edges.length)];
    }

    /** Mostly what there is, now and then what is just beside it. */
    private int number(int count) {
        return below(40) == 0 || count == 0 ? edge(0, count - 1) : below(count);
    }

    private int orEdge(int usual, int least, int most) {
        return below(30) == 0 ? edge(least, most) : usual;
    }

    private int error() {
        return below(25) == 0 ? edge(-99999, 99999) : between(-errors, errors);
    }

    private int reference() {
        return below(4) == 0 ? -1 : number(plain.instruments());
    }

    private Object[] arguments(String name) {
        switch (name) {
            case "tell":
                return new Object[] {reference(), orEdge(between(1, tolerances), 1, 9999),
                    orEdge(below(40), 0, 999), orEdge(between(1, longDays), 1, 999)};
            case "refer":
                return new Object[] {number(plain.instruments()), reference()};
            case "pass":
                return new Object[] {orEdge(between(1, 6), 1, 999)};
            case "calibrate":
                return new Object[] {number(plain.instruments()), error(), error()};
            case "expected":
                return new Object[] {number(plain.instruments()), orEdge(below(10000), 0, 9999)};
            case "benchDay":
                return new Object[] {number(plain.instruments()), orEdge(between(1, 12), 1, 12)};
            case "late":
                return new Object[] {orEdge(between(1, 4), 1, 12)};
            case "isCalledBack":
                return new Object[] {number(plain.measurements())};
            case "today": case "instruments": case "measurements": case "calledBack": case "calledBackByLog":
                return new Object[0];
            default:
                return new Object[] {number(plain.instruments())};
        }
    }

    private Method next() {
        int lot = below(100);
        if (plain.instruments() < 3 || lot < 4) return changes[0];
        if (lot < 4 + referWeight) return changes[1];
        if (lot < 16) return changes[2];
        if (lot < 16 + calibrateWeight) return changes[3];
        if (lot < 16 + calibrateWeight + measureWeight) return changes[4];
        return asked[below(asked.length)];
    }

    private static String answer(Object object, Method method, Object[] arguments) throws Exception {
        try {
            return String.valueOf(method.invoke(object, arguments));
        } catch (InvocationTargetException thrown) {
            return "throws " + thrown.getCause().getClass().getName();
        }
    }

    private boolean agrees(Checks checks, Method method, Object[] arguments) throws Exception {
        String call = method.getName() + Arrays.toString(arguments);
        Method twin = PlainKeeper.class.getMethod(method.getName(), method.getParameterTypes());
        String got = answer(tested, method, arguments);
        String want = answer(plain, twin, arguments);
        calls.add(call + " = " + want);
        checks.due(call, got, want);
        return got.equals(want);
    }

    private boolean sweep(Checks checks) throws Exception {
        for (Method method : asked) {
            int most = method.getName().equals("isCalledBack") ? plain.measurements() : plain.instruments();
            for (int n = 0; n < most && calls.size() < MOST_CALLS; n++) {
                Object[] arguments = arguments(method.getName());
                if (arguments.length > 0 && !method.getName().equals("late")) arguments[0] = n;
                if (!agrees(checks, method, arguments)) return false;
            }
        }
        return true;
    }

    private boolean run(Checks checks, int number) throws Exception {
        seed = number * 0x9E3779B97F4A7C15L + 12345;
        tested = new Calibratory();
        plain = new PlainKeeper();
        calls.clear();
        longDays = new int[] {5, 40, 999}[below(3)];
        tolerances = new int[] {3, 60, 9999}[below(3)];
        errors = Math.max(2, Math.min(99999, tolerances * between(1, 3) / 2));
        referWeight = between(0, 8);
        calibrateWeight = between(10, 40);
        measureWeight = between(5, 30);
        int mixed = between(20, MOST_CALLS - 60);
        while (calls.size() < mixed) {
            Method method = next();
            if (!agrees(checks, method, arguments(method.getName()))) return false;
        }
        return sweep(checks);
    }

    public static void main(String[] args) throws Exception {
        Checks checks = new Checks("RandomRunsTest");
        RandomRunsTest test = new RandomRunsTest();
        int recalled = 0;
        for (int number = 0; number < RUNS; number++) {
            if (!test.run(checks, number)) {
                System.out.println("run " + number + " up to its wrong answer, as due:");
                for (String call : test.calls) System.out.println("  " + call);
                break;
            }
            recalled += test.plain.calledBack();
        }
        checks.due("the runs recall something", recalled > RUNS, true);
        System.out.println("RandomRunsTest: " + recalled + " measurements were called back");
        checks.end();
    }
}
