/** Promises 9 to 14: intervalOf, dueOf, isSuspect, distrusted, chain, failures. */
public final class TrustTest {
    private static final Checks CHECKS = new Checks("TrustTest");
    private static final Class<IndexOutOfBoundsException> BOUNDS = IndexOutOfBoundsException.class;

    private static void noSuchInstrument() {
        Calibratory x = new Calibratory();
        x.tell(-1, 10, 1, 10);
        for (int wrong : new int[] {-2, -1, 1, 11, 12, Integer.MIN_VALUE, Integer.MAX_VALUE}) {
            CHECKS.dueThrow("intervalOf(" + wrong + ")", BOUNDS, () -> x.intervalOf(wrong));
            CHECKS.dueThrow("dueOf(" + wrong + ")", BOUNDS, () -> x.dueOf(wrong));
            CHECKS.dueThrow("isSuspect(" + wrong + ")", BOUNDS, () -> x.isSuspect(wrong));
            CHECKS.dueThrow("distrusted(" + wrong + ")", BOUNDS, () -> x.distrusted(wrong));
            CHECKS.dueThrow("chain(" + wrong + ")", BOUNDS, () -> x.chain(wrong));
            CHECKS.dueThrow("failures(" + wrong + ")", BOUNDS, () -> x.failures(wrong));
        }
    }

    private static void intervalsAndDues() {
        Calibratory x = new Calibratory();
        x.tell(-1, 10, 1, 999);
        x.tell(-1, 10, 1, 1);
        CHECKS.due("dueOf not calibrated", x.dueOf(0), Calibratory.NONE);
        x.pass(7);
        x.calibrate(0, 99, 0);
        x.calibrate(1, 0, 0);
        CHECKS.due("dueOf at the longest", x.dueOf(0), 1006);
        CHECKS.due("dueOf at the shortest", x.dueOf(1), 8);
        x.pass(20);
        CHECKS.due("passing moves no due day", x.dueOf(0), 1006);
        x.calibrate(0, 11, 0);
        CHECKS.due("intervalOf half", x.intervalOf(0), 499);
        CHECKS.due("dueOf then", x.dueOf(0), 526);
        CHECKS.due("the other stays", x.intervalOf(1), 1);
    }

    private static void distrust() {
        Calibratory x = new Calibratory();
        x.tell(-1, 10, 1, 3);
        x.tell(0, 10, 1, 2);
        x.tell(1, 10, 1, 9);
        CHECKS.due("itself first", x.distrusted(2), 2);
        x.calibrate(0, 0, 0);
        CHECKS.due("a standard in force", x.distrusted(0), Calibratory.NONE);
        CHECKS.due("not the one above", x.distrusted(1), 1);
        x.calibrate(1, 0, 0);
        x.calibrate(2, 0, 0);
        CHECKS.due("all in force", x.distrusted(2), Calibratory.NONE);
        x.pass(2);
        CHECKS.due("all still on their due day", x.distrusted(2), Calibratory.NONE);
        x.pass(1);
        CHECKS.due("the one in the middle is behind", x.distrusted(2), 1);
        x.pass(1);
        CHECKS.due("still the nearer one", x.distrusted(2), 1);
        CHECKS.due("the standard of itself", x.distrusted(0), 0);
        x.refer(2, 0);
        CHECKS.due("by another reference", x.distrusted(2), 0);
        x.refer(2, -1);
        CHECKS.due("by none", x.distrusted(2), Calibratory.NONE);
    }

    private static void suspicion() {
        Calibratory x = new Calibratory();
        x.tell(-1, 10, 1, 100);
        for (int n = 1; n < 6; n++) x.tell(0, 10, 1, 100);
        x.tell(1, 10, 1, 100);
        for (int n = 0; n < 5; n++) x.calibrate(n, 0, 0);
        x.calibrate(6, 0, 0);
        x.refer(2, -1);
        x.calibrate(2, 0, 0);
        x.refer(3, -1);
        x.calibrate(4, 0, 0);
        x.refer(6, -1);
        x.calibrate(0, 11, 0);
        CHECKS.due("the failed one itself", x.isSuspect(0), false);
        CHECKS.due("one calibrated with it", x.isSuspect(1), true);
        CHECKS.due("one calibrated without it since", x.isSuspect(2), false);
        CHECKS.due("one calibrated with it, with no reference now", x.isSuspect(3), true);
        CHECKS.due("one calibrated with it twice", x.isSuspect(4), true);
        CHECKS.due("one that refers to it, not calibrated", x.isSuspect(5), false);
        CHECKS.due("one calibrated with one of them", x.isSuspect(6), true);
        CHECKS.due("suspect, so not in force", x.distrusted(6), 6);
        CHECKS.due("no failure of theirs", x.failures(1) + x.failures(6), 0);
        CHECKS.due("suspect keeps its due day", x.dueOf(1), 100);
        x.calibrate(1, 0, 0);
        CHECKS.due("calibrated again", x.isSuspect(1), false);
        CHECKS.due("which clears itself alone", x.isSuspect(6), true);
        x.calibrate(0, 11, 0);
        CHECKS.due("by a second failure, again", x.isSuspect(1), true);
        CHECKS.due("failures", x.failures(0), 2);
    }

    private static void onlySinceTheLast() {
        Calibratory x = new Calibratory();
        x.tell(-1, 10, 1, 100);
        x.tell(0, 10, 1, 100);
        x.calibrate(0, 0, 0);
        x.calibrate(1, 0, 0);
        x.calibrate(0, 10, 0);
        x.calibrate(0, 11, 0);
        CHECKS.due("calibrated with it before its last", x.isSuspect(1), false);
    }

    private static void failing() {
        Calibratory x = new Calibratory();
        x.tell(-1, 10, 1, 100);
        CHECKS.due("none at first", x.failures(0), 0);
        x.calibrate(0, 50, 50);
        CHECKS.due("none by the first one", x.failures(0), 0);
        x.calibrate(0, 10, 0);
        x.calibrate(0, -10, 0);
        CHECKS.due("none at the tolerance", x.failures(0), 0);
        x.calibrate(0, 11, 0);
        x.calibrate(0, -11, 0);
        CHECKS.due("two above it", x.failures(0), 2);
    }

    public static void main(String[] args) {
        noSuchInstrument();
        intervalsAndDues();
        distrust();
        suspicion();
        onlySinceTheLast();
        failing();
        CHECKS.end();
    }
}
