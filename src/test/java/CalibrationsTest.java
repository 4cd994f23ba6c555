/** Promises 7 and 8: calibrate and measure. */
public final class CalibrationsTest {
    private static final Checks CHECKS = new Checks("CalibrationsTest");
    private static final Class<IndexOutOfBoundsException> BOUNDS = IndexOutOfBoundsException.class;
    private static final Class<IllegalArgumentException> ARGUMENT = IllegalArgumentException.class;
    private static final Class<IllegalStateException> STATE = IllegalStateException.class;

    private static Calibratory chainOf(int length, int tolerance, int interval) {
        Calibratory x = new Calibratory();
        for (int n = 0; n < length; n++) x.tell(n - 1, tolerance, 1, interval);
        return x;
    }

    private static void wrongInputs() {
        Calibratory x = chainOf(2, 10, 10);
        for (int wrong : new int[] {-1, 2, 12, Integer.MIN_VALUE, Integer.MAX_VALUE}) {
            CHECKS.dueThrow("calibrate(" + wrong + ")", BOUNDS, () -> x.calibrate(wrong, 100000, 0));
            CHECKS.dueThrow("measure(" + wrong + ")", BOUNDS, () -> x.measure(wrong));
        }
        for (int wrong : new int[] {-100000, 100000, Integer.MIN_VALUE, Integer.MAX_VALUE}) {
            CHECKS.dueThrow("found " + wrong, ARGUMENT, () -> x.calibrate(0, wrong, 0));
            CHECKS.dueThrow("left " + wrong, ARGUMENT, () -> x.calibrate(0, 0, wrong));
            CHECKS.dueThrow("out of range goes ahead of no trust", ARGUMENT, () -> x.calibrate(1, wrong, 0));
        }
        CHECKS.dueThrow("reference not calibrated", STATE, () -> x.calibrate(1, 0, 0));
        CHECKS.dueThrow("measure not calibrated", STATE, () -> x.measure(0));
        CHECKS.due("what threw calibrated nothing", x.dueOf(0) + x.dueOf(1), -2);
        CHECKS.due("what threw measured nothing", x.measurements(), 0);
        CHECKS.due("the ends of the range", x.calibrate(0, 99999, -99999), 0);
        CHECKS.due("and the other ends", x.calibrate(1, -99999, 99999), 0);
        CHECKS.due("a first one is no failure", x.failures(0) + x.failures(1), 0);
        CHECKS.due("a first one leaves the interval", x.intervalOf(0), 10);
    }

    private static void trustOfTheReference() {
        Calibratory x = chainOf(3, 10, 5);
        x.calibrate(0, 0, 0);
        x.pass(1);
        x.calibrate(1, 0, 0);
        x.pass(4);
        CHECKS.due("on the due day it is in force", x.calibrate(2, 0, 0), 0);
        x.pass(1);
        CHECKS.dueThrow("behind the due day of the reference's reference", STATE, () -> x.calibrate(2, 0, 0));
        CHECKS.dueThrow("measure over it", STATE, () -> x.measure(2));
        CHECKS.due("a standard needs nobody", x.calibrate(0, 7, 0), 0);
        CHECKS.due("then it can be again", x.calibrate(2, 0, 0), 0);
        x.refer(2, -1);
        x.pass(5);
        CHECKS.due("without reference it needs nobody", x.calibrate(2, 7, 0), 0);
        CHECKS.due("its due day is counted from today", x.dueOf(2), 17);
    }

    private static void intervals() {
        int[][] rows = { // tolerance, interval, found, the interval then
            {10, 100, 5, 125}, {10, 100, -5, 125}, {10, 100, 6, 100}, {10, 100, -10, 100}, {10, 100, 11, 50},
            {10, 100, -11, 50}, {9, 100, 4, 125}, {9, 100, 5, 100}, {10, 3, 0, 3}, {10, 4, 0, 5}, {10, 7, 0, 8},
            {10, 999, 0, 999}, {10, 800, 0, 999}, {10, 799, 0, 998}, {10, 1, 11, 1}, {10, 2, 11, 1}, {10, 3, 11, 1},
            {10, 5, 99999, 2}, {9999, 5, -99999, 2}, {1, 8, 0, 10}, {1, 8, 1, 8}, {1, 8, 2, 4}, {9999, 8, 4999, 10},
            {9999, 8, 5000, 8}, {9999, 8, 9999, 8}, {9999, 8, 10000, 4},
        };
        for (int[] row : rows) {
            Calibratory x = new Calibratory();
            x.tell(-1, row[0], 0, row[1]);
            x.calibrate(0, 99999, 0);
            x.pass(2);
            x.calibrate(0, row[2], 0);
            String run = "tolerance " + row[0] + ", interval " + row[1] + ", found " + row[2];
            CHECKS.due(run + ": interval", x.intervalOf(0), row[3]);
            CHECKS.due(run + ": due", x.dueOf(0), 2 + row[3]);
            CHECKS.due(run + ": failures", x.failures(0), Math.abs(row[2]) > row[0] ? 1 : 0);
        }
    }

    private static void failureRecalls() {
        Calibratory x = chainOf(1, 10, 100);
        x.calibrate(0, 0, 0);
        x.measure(0);
        x.calibrate(0, 10, 0);
        x.measure(0);
        x.measure(0);
        CHECKS.due("only since the last, though on one day", x.calibrate(0, -11, 0), 2);
        CHECKS.due("the first one stays", x.isCalledBack(0), false);
        CHECKS.due("the second is called back", x.isCalledBack(1), true);
        CHECKS.due("a second failure finds nothing new", x.calibrate(0, 11, 0), 0);
        CHECKS.due("failures", x.failures(0), 2);
        CHECKS.due("calledBack", x.calledBack(), 2);
    }

    private static void twoHundred() {
        Calibratory x = chainOf(1, 10, 100);
        x.calibrate(0, 0, 0);
        for (int n = 0; n < 200; n++) CHECKS.due("measurement " + n, x.measure(0), n);
        CHECKS.dueThrow("one more", STATE, () -> x.measure(0));
        CHECKS.dueThrow("one more with none", BOUNDS, () -> x.measure(1));
        CHECKS.due("measurements", x.measurements(), 200);
        CHECKS.due("all at stake", x.atStake(0), 200);
        CHECKS.due("all called back", x.calibrate(0, 11, 0), 200);
        CHECKS.due("and by the log", x.calledBackByLog(), 200);
    }

    private static void asManyAsThereAreCalls() {
        Calibratory x = chainOf(1, 10, 999);
        for (int n = 0; n < 508; n++) x.calibrate(0, 11, 0);
        CHECKS.due("failures", x.failures(0), 507);
        x.measure(0);
        CHECKS.due("the last call that is promised", x.calibrate(0, 11, 0), 1);
    }

    private static void measureNeedsTrust() {
        Calibratory x = chainOf(2, 10, 5);
        x.calibrate(0, 0, 0);
        CHECKS.dueThrow("not calibrated itself", STATE, () -> x.measure(1));
        CHECKS.due("the standard", x.measure(0), 0);
        x.calibrate(1, 0, 0);
        x.pass(5);
        CHECKS.due("on the due day", x.measure(1), 1);
        x.pass(1);
        CHECKS.dueThrow("behind it", STATE, () -> x.measure(0));
        x.calibrate(0, 50, 0);
        x.calibrate(1, 0, 0);
        x.calibrate(0, 50, 0);
        CHECKS.dueThrow("suspect", STATE, () -> x.measure(1));
        x.refer(1, -1);
        CHECKS.dueThrow("suspect, though a standard now", STATE, () -> x.measure(1));
        x.calibrate(1, 0, 0);
        CHECKS.due("calibrated again", x.measure(1), 2);
    }

    public static void main(String[] args) {
        wrongInputs();
        trustOfTheReference();
        intervals();
        failureRecalls();
        twoHundred();
        asManyAsThereAreCalls();
        measureNeedsTrust();
        CHECKS.end();
    }
}
