/** Promises 20 to 24: measurements, isCalledBack, calledBack, calledBackByLog, atStake. */
public final class RecallsTest {
    private static final Checks CHECKS = new Checks("RecallsTest");
    private static final Class<IndexOutOfBoundsException> BOUNDS = IndexOutOfBoundsException.class;

    private static Calibratory chainOf(int length) {
        Calibratory x = new Calibratory();
        for (int n = 0; n < length; n++) x.tell(n - 1, 10, 1, 100);
        for (int n = 0; n < length; n++) x.calibrate(n, 0, 0);
        return x;
    }

    private static void dueRecalled(String run, Calibratory x, String marks) {
        StringBuilder got = new StringBuilder();
        int count = 0;
        for (int m = 0; m < x.measurements(); m++) {
            got.append(x.isCalledBack(m) ? 'x' : '.');
            count += x.isCalledBack(m) ? 1 : 0;
        }
        CHECKS.due(run + ": isCalledBack", got.toString(), marks);
        CHECKS.due(run + ": calledBack", x.calledBack(), count);
        CHECKS.due(run + ": calledBackByLog", x.calledBackByLog(), count);
    }

    private static void wrongInputs() {
        Calibratory x = chainOf(1);
        CHECKS.dueThrow("isCalledBack(0) of none", BOUNDS, () -> x.isCalledBack(0));
        x.measure(0);
        for (int wrong : new int[] {-1, 1, 199, 200, Integer.MIN_VALUE, Integer.MAX_VALUE}) {
            CHECKS.dueThrow("isCalledBack(" + wrong + ")", BOUNDS, () -> x.isCalledBack(wrong));
            CHECKS.dueThrow("atStake(" + wrong + ")", BOUNDS, () -> x.atStake(wrong));
        }
        dueRecalled("one measurement", x, ".");
    }

    private static void overTheChain() {
        Calibratory x = chainOf(12);
        for (int n = 0; n < 12; n++) x.measure(n);
        for (int n = 0; n < 12; n++) CHECKS.due("atStake(" + n + ")", x.atStake(n), 12 - n);
        dueRecalled("asking changes nothing", x, "............");
        CHECKS.due("in the middle", x.calibrate(6, 11, 0), 6);
        dueRecalled("in the middle", x, "......xxxxxx");
        for (int n = 0; n < 6; n++) CHECKS.due("less at stake, " + n, x.atStake(n), 6 - n);
        for (int n = 6; n < 12; n++) CHECKS.due("nothing at stake, " + n, x.atStake(n), 0);
        CHECKS.due("at the standard", x.calibrate(0, 11, 0), 6);
        dueRecalled("at the standard", x, "xxxxxxxxxxxx");
    }

    private static void whatBreaksTheChain() {
        Calibratory x = chainOf(3);
        x.measure(2);
        x.calibrate(1, 0, 0);
        x.measure(1);
        CHECKS.due("what 2 was calibrated with has been found good", x.atStake(0), 1);
        CHECKS.due("and so nothing of 2 rests on 1", x.atStake(1), 1);
        CHECKS.due("but on itself", x.atStake(2), 1);
        x.calibrate(0, 11, 0);
        dueRecalled("1 alone", x, ".x");
        CHECKS.due("2 is not suspect", x.isSuspect(2), false);
        CHECKS.due("1 is", x.isSuspect(1), true);
    }

    private static void sinceByOrder() {
        Calibratory x = chainOf(2);
        x.measure(1);
        x.calibrate(1, 0, 0);
        x.measure(1);
        x.refer(1, -1);
        x.calibrate(1, 0, 0);
        x.measure(1);
        x.measure(0);
        CHECKS.due("only its own", x.atStake(0), 1);
        x.calibrate(0, -11, 0);
        dueRecalled("its last calibration was without 0", x, "...x");
        x.calibrate(1, 11, 0);
        dueRecalled("since its last alone", x, "..xx");
    }

    private static void withTheReferenceOfThen() {
        Calibratory x = chainOf(2);
        x.tell(-1, 10, 1, 100);
        x.calibrate(2, 0, 0);
        x.refer(1, 2);
        x.measure(1);
        CHECKS.due("not the reference of now", x.atStake(2), 0);
        CHECKS.due("the reference of then", x.atStake(0), 1);
        CHECKS.due("a failure of the one of now", x.calibrate(2, 11, 0), 0);
        CHECKS.due("a failure of the one of then", x.calibrate(0, 11, 0), 1);
        dueRecalled("the reference of then", x, "x");
    }

    private static void atStakeWithoutTrust() {
        Calibratory x = chainOf(2);
        x.tell(0, 10, 1, 100);
        CHECKS.due("not calibrated", x.atStake(2), 0);
        x.measure(1);
        x.pass(999);
        CHECKS.due("its reference is out of force", x.distrusted(1), 1);
        CHECKS.due("and yet it is at stake", x.atStake(1), 1);
        CHECKS.dueThrow("which calibrating is not allowed to find", IllegalStateException.class,
                () -> x.calibrate(1, 11, 0));
        dueRecalled("which threw", x, ".");
        CHECKS.due("nor has it failed", x.failures(1), 0);
    }

    private static void overTheSuspect() {
        // 0 is calibrated with 2 at the very moment at which its failure makes 2 suspect.
        Calibratory x = chainOf(3);
        x.measure(2);
        x.refer(2, -1);
        x.refer(0, 2);
        CHECKS.due("0 fails", x.calibrate(0, 11, 0), 1);
        CHECKS.due("2 is suspect", x.isSuspect(2), true);
        CHECKS.due("0 is not in trust over it", x.distrusted(0), 2);
        x.refer(0, -1);
        x.measure(0);
        dueRecalled("a failure calls back nothing that comes behind it", x, "x.");
        CHECKS.due("over the suspect 2 back to 0", x.atStake(1), 1);
        CHECKS.due("1 fails", x.calibrate(1, 11, 0), 1);
        dueRecalled("over the suspect 2", x, "xx");
        CHECKS.due("0 is suspect", x.isSuspect(0), true);
        CHECKS.due("1 itself is not", x.isSuspect(1), false);
    }

    public static void main(String[] args) {
        wrongInputs();
        overTheChain();
        whatBreaksTheChain();
        sinceByOrder();
        withTheReferenceOfThen();
        atStakeWithoutTrust();
        overTheSuspect();
        CHECKS.end();
    }
}
