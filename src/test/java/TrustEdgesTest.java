/** The edges of promises 9 to 14, each on its own: intervalOf, dueOf, isSuspect, distrusted, chain, failures. */
public final class TrustEdgesTest {
    private static final int NONE = Calibratory.NONE;

    /** Twelve standards, calibrated, each with an interval of its own. */
    private static Calibratory twelveOfTheirOwn() {
        Calibratory x = new Calibratory();
        for (int n = 0; n < 12; n++) {
            x.tell(NONE, 10, 1, 500 + n);
            x.calibrate(n, 0, 0);
        }
        return x;
    }

    // ---- promise 9: intervalOf

    @Says(promise = 9, value = "Returns the interval of an instrument.")
    static void intervalFromItsTellingOn(Checks checks) {
        Calibratory x = Edges.standards(1);
        checks.due("not calibrated", x.intervalOf(0), 100);
        x.pass(101);
        checks.due("days change it not", x.intervalOf(0), 100);
        x.calibrate(0, 99999, 0);
        checks.due("nor does a first calibration", x.intervalOf(0), 100);
    }

    @Says(promise = 9, value = "`instrument`: its number")
    static void intervalOfEachNumber(Checks checks) {
        Calibratory x = twelveOfTheirOwn();
        for (int n = 0; n < 12; n++) checks.due("of " + n, x.intervalOf(n), 500 + n);
    }

    @Says(promise = 9, value = "Returns 1 to 999.")
    static void intervalGrowsTo999AtMost(Checks checks) {
        Calibratory x = new Calibratory();
        x.tell(NONE, 10, 0, 600);
        int[] due = {600, 750, 937, 999, 999, 999};
        for (int want : due) {
            x.calibrate(0, 0, 0);
            checks.due("then", x.intervalOf(0), want);
        }
    }

    @Says(promise = 9, value = "Returns 1 to 999.")
    static void intervalShrinksTo1AtLeast(Checks checks) {
        Calibratory x = new Calibratory();
        x.tell(NONE, 10, 0, 12);
        int[] due = {12, 6, 3, 1, 1, 1};
        for (int want : due) {
            x.calibrate(0, 11, 0);
            checks.due("then", x.intervalOf(0), want);
        }
        checks.due("due on the next day", x.dueOf(0), 1);
    }

    @Says(promise = 9, value = "Throws `IndexOutOfBoundsException` if there is no such instrument")
    static void noSuchInterval(Checks checks) {
        Edges.dueNoSuch(checks, (x, n) -> x.intervalOf(n));
    }

    // ---- promise 10: dueOf

    @Says(promise = 10, value = "Returns the due day of an instrument.")
    static void dueDayStaysWhileDaysPass(Checks checks) {
        Calibratory x = Edges.standards(1);
        x.pass(7);
        x.calibrate(0, 0, 0);
        checks.due("day and interval", x.dueOf(0), 107);
        x.pass(500);
        checks.due("behind it too", x.dueOf(0), 107);
    }

    @Says(promise = 10, value = "`instrument`: its number")
    static void dueDayOfEachNumber(Checks checks) {
        Calibratory x = twelveOfTheirOwn();
        for (int n = 0; n < 12; n++) checks.due("of " + n, x.dueOf(n), 500 + n);
    }

    @Says(promise = 10, value = "Returns the day; NONE if it is not calibrated.")
    static void noDueDayWhileNotCalibrated(Checks checks) {
        Calibratory x = Edges.chained(2);
        x.pass(3);
        checks.due("not calibrated", x.dueOf(1), NONE);
        checks.dueThrow("refused", Edges.STATE, () -> x.calibrate(1, 0, 0));
        checks.due("behind a refused calibration", x.dueOf(1), NONE);
        x.calibrate(0, 0, 0);
        checks.due("its reference is, it is not", x.dueOf(1), NONE);
        x.calibrate(1, 0, 0);
        checks.due("calibrated", x.dueOf(1), 103);
    }

    @Says(promise = 10, value = "Returns the day; NONE if it is not calibrated.")
    static void aSuspectOneHasADueDay(Checks checks) {
        Calibratory x = Edges.calibrated(2);
        x.calibrate(0, 11, 0);
        checks.due("suspect", x.isSuspect(1), true);
        checks.due("and due", x.dueOf(1), 100);
    }

    @Says(promise = 10, value = "Returns the day; NONE if it is not calibrated.")
    static void theFirstAndTheLastDueDay(Checks checks) {
        Calibratory x = new Calibratory();
        x.tell(NONE, 10, 0, 1);
        x.tell(NONE, 10, 0, 999);
        x.calibrate(0, 0, 0);
        checks.due("the first", x.dueOf(0), 1);
        for (int n = 0; n < 500; n++) x.pass(999);
        x.calibrate(1, 0, 0);
        checks.due("a far one", x.dueOf(1), 501 * 999);
    }

    @Says(promise = 10, value = "Throws `IndexOutOfBoundsException` if there is no such instrument")
    static void noSuchDueDay(Checks checks) {
        Edges.dueNoSuch(checks, (x, n) -> x.dueOf(n));
    }

    // ---- promise 11: isSuspect

    @Says(promise = 11, value = "Tells whether an instrument is suspect.")
    static void notSuspectWhileNotCalibrated(Checks checks) {
        Calibratory x = Edges.chained(2);
        x.calibrate(0, 0, 0);
        checks.due("not calibrated", x.isSuspect(1), false);
        x.calibrate(0, 11, 0);
        checks.due("not calibrated, its reference failed", x.isSuspect(1), false);
    }

    @Says(promise = 11, value = "Tells whether an instrument is suspect.")
    static void notSuspectBehindItsDueDay(Checks checks) {
        Calibratory x = Edges.calibrated(2);
        x.pass(999);
        checks.due("behind its due day", x.isSuspect(1), false);
        x.calibrate(0, 10, 0);
        checks.due("its reference at its tolerance", x.isSuspect(1), false);
    }

    @Says(promise = 11, value = "`instrument`: its number")
    static void suspectEachNumber(Checks checks) {
        for (int n = 1; n < 12; n++) {
            Calibratory x = Edges.standards(12);
            for (int other = 0; other < 12; other++) {
                x.refer(other, other == n ? 0 : NONE);
                x.calibrate(other, 0, 0);
            }
            x.calibrate(0, 11, 0);
            for (int other = 0; other < 12; other++) checks.due(n + " of them: " + other, x.isSuspect(other), other == n);
        }
    }

    @Says(promise = 11, value = "Returns whether it is.")
    static void suspectUntilItsNextCalibration(Checks checks) {
        Calibratory x = Edges.calibrated(2);
        checks.due("at first", x.isSuspect(1), false);
        x.calibrate(0, 11, 0);
        checks.due("its reference failed", x.isSuspect(1), true);
        x.calibrate(0, 0, 0);
        checks.due("its reference is good again", x.isSuspect(1), true);
        x.refer(1, NONE);
        checks.due("its reference is gone", x.isSuspect(1), true);
        x.calibrate(1, 99, 0);
        checks.due("calibrated, though it failed", x.isSuspect(1), false);
    }

    @Says(promise = 11, value = "Throws `IndexOutOfBoundsException` if there is no such instrument")
    static void noSuchSuspect(Checks checks) {
        Edges.dueNoSuch(checks, (x, n) -> x.isSuspect(n));
    }

    // ---- promise 12: distrusted

    @Says(promise = 12, value = "Tells whether an instrument is trusted, or why not.")
    static void whyNotOfEachKind(Checks checks) {
        Calibratory x = Edges.chained(3);
        x.calibrate(0, 0, 0);
        checks.due("1 is not calibrated", x.distrusted(1), 1);
        x.calibrate(1, 0, 0);
        x.calibrate(2, 0, 0);
        x.calibrate(0, 11, 0);
        x.refer(2, NONE);
        x.calibrate(2, 0, 0);
        x.refer(2, 1);
        checks.due("1 is suspect", x.distrusted(2), 1);
        x.calibrate(1, 0, 0);
        checks.due("all are in force", x.distrusted(2), NONE);
        x.pass(51);
        checks.due("0 is behind its due day", x.distrusted(2), 0);
    }

    @Says(promise = 12, value = "`instrument`: its number")
    static void distrustedOfEachNumber(Checks checks) {
        Calibratory x = Edges.standards(12);
        for (int n = 0; n < 12; n += 2) x.calibrate(n, 0, 0);
        for (int n = 0; n < 12; n++) checks.due("of " + n, x.distrusted(n), n % 2 == 0 ? NONE : n);
    }

    @Says(promise = 12, value = "Returns NONE if it is trusted")
    static void noneIfTrusted(Checks checks) {
        Calibratory x = Edges.calibrated(12);
        x.pass(100);
        for (int n = 0; n < 12; n++) checks.due("on the due day of all: " + n, x.distrusted(n), NONE);
        x.pass(1);
        for (int n = 0; n < 12; n++) checks.due("behind it: " + n, x.distrusted(n), n);
    }

    @Says(promise = 12, value = "otherwise the number of the first instrument of its chain, itself first, that is not in force.")
    static void theFirstOfSeveral(Checks checks) {
        Calibratory x = new Calibratory();
        int[] intervals = {1, 9, 2, 9, 3, 9};
        for (int n = 0; n < 6; n++) x.tell(n - 1, 10, 1, intervals[n]);
        for (int n = 0; n < 6; n++) x.calibrate(n, 0, 0);
        int[] first = {NONE, NONE, 0, 2, 4, 4, 4, 4, 4, 4, 5};
        for (int day = 1; day <= 10; day++) {
            x.pass(1);
            checks.due("day " + day, x.distrusted(5), first[day]);
        }
        checks.due("from the middle of the chain", x.distrusted(3), 3);
        checks.due("the standard", x.distrusted(0), 0);
    }

    @Says(promise = 12, value = "otherwise the number of the first instrument of its chain, itself first, that is not in force.")
    static void firstInTheChainIsNotTheLeastNumber(Checks checks) {
        Calibratory x = Edges.standards(3);
        x.refer(0, 2);
        x.refer(2, 1);
        checks.due("itself", x.distrusted(0), 0);
        x.refer(0, NONE);
        x.calibrate(0, 0, 0);
        x.refer(0, 2);
        checks.due("its reference, with the greater number", x.distrusted(0), 2);
        x.refer(2, NONE);
        x.calibrate(2, 0, 0);
        x.refer(2, 1);
        checks.due("the end of its chain", x.distrusted(0), 1);
    }

    @Says(promise = 12, value = "Throws `IndexOutOfBoundsException` if there is no such instrument")
    static void noSuchDistrusted(Checks checks) {
        Edges.dueNoSuch(checks, (x, n) -> x.distrusted(n));
    }

    // ---- promise 13: chain

    @Says(promise = 13, value = "Returns how many instruments the chain of an instrument has.")
    static void chainsFromOneToTwelve(Checks checks) {
        Calibratory x = Edges.chained(12);
        for (int n = 0; n < 12; n++) checks.due("of " + n, x.chain(n), n + 1);
    }

    @Says(promise = 13, value = "`instrument`: its number")
    static void chainOfEachNumber(Checks checks) {
        Calibratory x = Edges.standards(12);
        for (int n = 0; n < 11; n++) x.refer(n, n + 1);
        for (int n = 0; n < 12; n++) checks.due("of " + n, x.chain(n), 12 - n);
    }

    @Says(promise = 13, value = "Returns how many; 1 for a standard.")
    static void chainOfAStandard(Checks checks) {
        Calibratory x = Edges.chained(2);
        checks.due("told as one", x.chain(0), 1);
        x.refer(1, NONE);
        checks.due("become one", x.chain(1), 1);
        x.refer(0, 1);
        checks.due("no longer one", x.chain(0), 2);
    }

    @Says(promise = 13, value = "Throws `IndexOutOfBoundsException` if there is no such instrument")
    static void noSuchChain(Checks checks) {
        Edges.dueNoSuch(checks, (x, n) -> x.chain(n));
    }

    // ---- promise 14: failures

    @Says(promise = 14, value = "Returns how often an instrument has failed.")
    static void neverAtFirst(Checks checks) {
        Calibratory x = Edges.standards(1);
        checks.due("told", x.failures(0), 0);
        x.calibrate(0, -99999, 99999);
        checks.due("the first calibration fails not", x.failures(0), 0);
        x.calibrate(0, 10, 0);
        checks.due("at the tolerance", x.failures(0), 0);
        x.calibrate(0, 11, 0);
        checks.due("above it", x.failures(0), 1);
        x.calibrate(0, 0, 0);
        checks.due("a good one takes none back", x.failures(0), 1);
    }

    @Says(promise = 14, value = "Returns how often an instrument has failed.")
    static void aSuspectOneHasNotFailed(Checks checks) {
        Calibratory x = Edges.calibrated(2);
        x.measure(1);
        x.calibrate(0, 11, 0);
        checks.due("its reference failed", x.failures(0), 1);
        checks.due("it is suspect alone", x.failures(1), 0);
        checks.dueThrow("refused", Edges.ARGUMENT, () -> x.calibrate(1, 100000, 0));
        checks.due("a refused calibration is no failure", x.failures(1), 0);
    }

    @Says(promise = 14, value = "`instrument`: its number")
    static void failuresOfEachNumber(Checks checks) {
        Calibratory x = Edges.standards(12);
        for (int n = 0; n < 12; n++) {
            for (int times = 0; times <= n; times++) x.calibrate(n, 11, 0);
        }
        for (int n = 0; n < 12; n++) checks.due("of " + n, x.failures(n), n);
    }

    @Says(promise = 14, value = "Returns how often.")
    static void asOftenAsThereAreCalls(Checks checks) {
        Calibratory x = Edges.standards(1);
        for (int n = 0; n < 510; n++) x.calibrate(0, n % 2 == 0 ? 11 : -11, 0);
        checks.due("all but the first", x.failures(0), 509);
    }

    @Says(promise = 14, value = "Throws `IndexOutOfBoundsException` if there is no such instrument")
    static void noSuchFailures(Checks checks) {
        Edges.dueNoSuch(checks, (x, n) -> x.failures(n));
    }

    public static void main(String[] args) throws IllegalAccessException {
        Edges.run(TrustEdgesTest.class);
    }
}
