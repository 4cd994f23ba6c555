import java.lang.reflect.InvocationTargetException;
import java.lang.reflect.Method;
import java.util.ArrayList;
import java.util.Arrays;
import java.util.Comparator;
import java.util.List;

/** What the tests of the edges share: they are run one by one, so that each sentence breaks under its own name. */
final class Edges {
    static final Class<IndexOutOfBoundsException> BOUNDS = IndexOutOfBoundsException.class;
    static final Class<IllegalArgumentException> ARGUMENT = IllegalArgumentException.class;
    static final Class<IllegalStateException> STATE = IllegalStateException.class;
    static final int LEAST = Integer.MIN_VALUE;
    static final int MOST = Integer.MAX_VALUE;

    interface Asked {
        Object answer(Calibratory x, int number);
    }

    interface Made {
        Calibratory make();
    }

    interface Run {
        Object answer(Calibratory x);
    }

    private Edges() {
    }

    static List<Method> testsOf(Class<?> tests) {
        List<Method> all = new ArrayList<>(Arrays.asList(tests.getDeclaredMethods()));
        all.removeIf(each -> each.getAnnotation(Says.class) == null);
        all.sort(Comparator.comparing(Method::getName));
        return all;
    }

    static void run(Class<?> tests) throws IllegalAccessException {
        int broken = 0;
        List<Method> all = testsOf(tests);
        for (Method test : all) {
            if (!holds(test)) {
                Says says = test.getAnnotation(Says.class);
                System.out.println("BROKEN " + test.getName() + ", promise " + says.promise() + ": " + says.value());
                broken++;
            }
        }
        System.out.println(tests.getSimpleName() + ": " + all.size() + " sentences' edges, " + broken + " broken");
        if (broken != 0 || all.isEmpty()) {
            System.exit(1);
        }
    }

    private static boolean holds(Method test) throws IllegalAccessException {
        Checks checks = new Checks(test.getName());
        try {
            test.invoke(null, checks);
        } catch (InvocationTargetException thrown) {
            System.out.println(test.getName() + ": a call threw " + thrown.getCause());
            return false;
        }
        return checks.holds();
    }

    /** Standards, none of them calibrated. */
    static Calibratory standards(int count) {
        Calibratory x = new Calibratory();
        for (int n = 0; n < count; n++) x.tell(Calibratory.NONE, 10, 1, 100);
        return x;
    }

    /** Each the reference of the next one, none of them calibrated. */
    static Calibratory chained(int count) {
        Calibratory x = new Calibratory();
        for (int n = 0; n < count; n++) x.tell(n - 1, 10, 1, 100);
        return x;
    }

    /** Each the reference of the next one, all calibrated on day 0 and due on day 100. */
    static Calibratory calibrated(int count) {
        Calibratory x = chained(count);
        for (int n = 0; n < count; n++) x.calibrate(n, 0, 0);
        return x;
    }

    /**
     * Three in a chain, turned round: 0 failed while it referred to 2, which its failure made suspect, and was so
     * calibrated with 2. The measurement with 2 is called back; the one with 0, behind the failure, is not.
     */
    static Calibratory turned() {
        Calibratory x = calibrated(3);
        x.measure(2);
        x.refer(2, Calibratory.NONE);
        x.refer(0, 2);
        x.calibrate(0, 11, 0);
        x.refer(0, Calibratory.NONE);
        x.measure(0);
        return x;
    }

    /** A standard that was calibrated, and again behind some days, which is one drift point. */
    static Calibratory drifted(int tolerance, int days, int found, int leftThen) {
        Calibratory x = new Calibratory();
        x.tell(Calibratory.NONE, tolerance, 0, 999);
        x.calibrate(0, 0, 0);
        x.pass(days);
        x.calibrate(0, found, leftThen);
        return x;
    }

    /** Everything that can be asked, in 6 calls, 13 for each instrument and one for each measurement. */
    static String picture(Calibratory x) {
        int instruments = x.instruments();
        int measurements = x.measurements();
        StringBuilder text = new StringBuilder();
        text.append(x.today()).append(' ').append(instruments).append(' ').append(measurements).append(' ')
                .append(x.calledBack()).append(' ').append(x.calledBackByLog()).append(' ').append(x.late(1));
        for (int n = 0; n < instruments; n++) {
            text.append("; ").append(x.intervalOf(n)).append(' ').append(x.dueOf(n)).append(' ')
                    .append(x.isSuspect(n)).append(' ').append(x.distrusted(n)).append(' ').append(x.chain(n)).append(' ')
                    .append(x.failures(n)).append(' ').append(x.slope(n)).append(' ').append(expected(x, n)).append(' ')
                    .append(x.driftsOut(n)).append(' ').append(x.uncertainty(n)).append(' ').append(x.limit(n)).append(' ')
                    .append(x.atStake(n)).append(' ').append(x.benchDay(n, 1));
        }
        text.append("; ");
        for (int m = 0; m < measurements; m++) text.append(x.isCalledBack(m) ? 'x' : '.');
        return text.toString();
    }

    private static Object expected(Calibratory x, int number) {
        return Checks.answerOf(() -> x.expected(number, 10));
    }

    /** A call on a number that is too small or too large: with no instruments, with some, and with as many as there can be. */
    static void dueNoSuch(Checks checks, Asked asked) {
        for (int count : new int[] {0, 1, 5, 11, 12}) {
            Calibratory x = calibrated(count);
            for (int wrong : new int[] {LEAST, -12, -2, Calibratory.NONE, count, count + 1, 12, 13, MOST}) {
                checks.dueThrow(wrong + " of " + count, BOUNDS, () -> asked.answer(x, wrong));
            }
            for (int n = 0; n < count; n++) {
                boolean answered = !String.valueOf(askedOf(asked, x, n)).startsWith("throws");
                checks.due(n + " of " + count + " is there", answered, true);
            }
        }
    }

    private static Object askedOf(Asked asked, Calibratory x, int number) {
        return Checks.answerOf(() -> asked.answer(x, number));
    }

    /** A new object each time: two pictures of twelve instruments take most of the 512 calls. */
    static void dueRefused(Checks checks, String call, Class<? extends RuntimeException> want, Made made, Run run) {
        Calibratory x = made.make();
        dueRefused(checks, call, want, x, () -> run.answer(x));
    }

    /** The call is refused with this very exception, and leaves everything as it was. */
    static void dueRefused(Checks checks, String call, Class<? extends RuntimeException> want, Calibratory x,
            Checks.Call run) {
        String before = picture(x);
        checks.dueThrow(call, want, run);
        // A call that was not refused may have closed a ring of references, over which no answer ends.
        if (checks.holds()) {
            checks.due("all behind " + call, picture(x), before);
        }
    }
}
