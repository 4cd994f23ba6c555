/** Promises 1 to 6: a new object, tell, refer, pass, today, instruments. */
public final class InstrumentsTest {
    private static final Checks CHECKS = new Checks("InstrumentsTest");
    private static final Class<IndexOutOfBoundsException> BOUNDS = IndexOutOfBoundsException.class;
    private static final Class<IllegalArgumentException> ARGUMENT = IllegalArgumentException.class;
    private static final Class<IllegalStateException> STATE = IllegalStateException.class;

    private static void newObject() {
        Calibratory x = new Calibratory();
        CHECKS.due("instruments of a new object", x.instruments(), 0);
        CHECKS.due("today of a new object", x.today(), 0);
        CHECKS.due("measurements of a new object", x.measurements(), 0);
        CHECKS.due("calledBack of a new object", x.calledBack(), 0);
        CHECKS.due("calledBackByLog of a new object", x.calledBackByLog(), 0);
        CHECKS.due("late of a new object", x.late(1), 0);
        CHECKS.dueThrow("chain(0) of a new object", BOUNDS, () -> x.chain(0));
    }

    private static void objectsAreApart() {
        Calibratory one = new Calibratory();
        Calibratory other = new Calibratory();
        one.tell(-1, 1, 0, 1);
        one.pass(3);
        CHECKS.due("instruments of the other object", other.instruments(), 0);
        CHECKS.due("today of the other object", other.today(), 0);
    }

    private static void tell() {
        Calibratory x = new Calibratory();
        CHECKS.due("tell at the least", x.tell(-1, 1, 0, 1), 0);
        CHECKS.due("tell at the most", x.tell(0, 9999, 999, 999), 1);
        CHECKS.due("intervalOf as told", x.intervalOf(1), 999);
        CHECKS.due("uncertainty as told", x.uncertainty(0), 0);
        CHECKS.due("limit as told", x.limit(1), 9000);
        CHECKS.due("its reference as told", x.chain(1), 2);
        CHECKS.due("told, it is not calibrated", x.dueOf(1), -1);
        CHECKS.due("told, it is not suspect", x.isSuspect(1), false);
        CHECKS.due("told, it has not failed", x.failures(1), 0);
        CHECKS.dueThrow("its own number as reference", BOUNDS, () -> x.tell(2, 1, 1, 1));
        CHECKS.dueThrow("reference -2", BOUNDS, () -> x.tell(-2, 1, 1, 1));
        CHECKS.dueThrow("reference MIN", BOUNDS, () -> x.tell(Integer.MIN_VALUE, 1, 1, 1));
        CHECKS.dueThrow("reference MAX", BOUNDS, () -> x.tell(Integer.MAX_VALUE, 1, 1, 1));
        int[][] wrong = {{0, 1, 1}, {10000, 1, 1}, {1, -1, 1}, {1, 1000, 1}, {1, 1, 0}, {1, 1, 1000},
            {Integer.MIN_VALUE, 1, 1}, {1, Integer.MAX_VALUE, 1}, {1, 1, Integer.MIN_VALUE}};
        for (int[] each : wrong) {
            CHECKS.dueThrow("tell out of range", ARGUMENT, () -> x.tell(-1, each[0], each[1], each[2]));
        }
        CHECKS.dueThrow("no reference goes ahead of out of range", BOUNDS, () -> x.tell(7, 0, 1000, 0));
        CHECKS.due("what threw told nothing", x.instruments(), 2);
    }

    private static void tellTwelve() {
        Calibratory x = new Calibratory();
        for (int n = 0; n < 12; n++) {
            CHECKS.due("tell number " + n, x.tell(n - 1, 5, 1, 5), n);
            CHECKS.due("instruments then", x.instruments(), n + 1);
        }
        CHECKS.dueThrow("a thirteenth", STATE, () -> x.tell(-1, 5, 1, 5));
        CHECKS.dueThrow("a thirteenth out of range", ARGUMENT, () -> x.tell(-1, 5, 1, 0));
        CHECKS.dueThrow("a thirteenth without reference", BOUNDS, () -> x.tell(12, 5, 1, 0));
        CHECKS.due("instruments after that", x.instruments(), 12);
        CHECKS.due("chain over all", x.chain(11), 12);
    }

    private static void refer() {
        Calibratory x = new Calibratory();
        x.tell(-1, 9, 1, 9);
        x.tell(0, 9, 1, 9);
        x.tell(1, 9, 1, 9);
        CHECKS.dueThrow("itself", STATE, () -> x.refer(1, 1));
        CHECKS.dueThrow("over one", STATE, () -> x.refer(0, 1));
        CHECKS.dueThrow("over two", STATE, () -> x.refer(0, 2));
        CHECKS.dueThrow("no such instrument", BOUNDS, () -> x.refer(3, 0));
        CHECKS.dueThrow("instrument NONE", BOUNDS, () -> x.refer(-1, 0));
        CHECKS.dueThrow("no such reference", BOUNDS, () -> x.refer(0, 3));
        CHECKS.dueThrow("reference -2", BOUNDS, () -> x.refer(0, -2));
        CHECKS.dueThrow("both are none there", BOUNDS, () -> x.refer(5, 5));
        if (!CHECKS.holds()) return; // a ring of references has no end
        CHECKS.due("what threw changed nothing", x.chain(0) * 100 + x.chain(1) * 10 + x.chain(2), 123);
        CHECKS.due("a standard that stays one", x.refer(0, -1), -1);
        CHECKS.due("the same reference again", x.refer(2, 1), 1);
        CHECKS.due("another reference", x.refer(2, 0), 1);
        CHECKS.due("chain then", x.chain(2), 2);
        CHECKS.due("none", x.refer(2, -1), 0);
        CHECKS.due("chain of a standard", x.chain(2), 1);
        CHECKS.due("now it can be the standard's", x.refer(0, 2), -1);
        CHECKS.due("chain by that", x.chain(1), 3);
        CHECKS.dueThrow("and no longer the other way", STATE, () -> x.refer(2, 1));
        CHECKS.due("what it had then", x.refer(0, -1), 2);
    }

    private static void pass() {
        Calibratory x = new Calibratory();
        CHECKS.due("pass(1)", x.pass(1), 1);
        CHECKS.due("pass(999)", x.pass(999), 1000);
        for (int wrong : new int[] {0, -1, 1000, Integer.MIN_VALUE, Integer.MAX_VALUE}) {
            CHECKS.dueThrow("pass(" + wrong + ")", ARGUMENT, () -> x.pass(wrong));
        }
        CHECKS.due("today", x.today(), 1000);
        CHECKS.due("today again", x.today(), 1000);
        CHECKS.due("instruments", x.instruments(), 0);
    }

    public static void main(String[] args) {
        newObject();
        objectsAreApart();
        tell();
        tellTwelve();
        refer();
        pass();
        CHECKS.end();
    }
}
