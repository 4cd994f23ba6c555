/** The edges of promises 15 to 19, each on its own: slope, expected, driftsOut, uncertainty, limit. */
public final class DriftEdgesTest {
    private static final int NONE = Calibratory.NONE;
    private static final int LEAST = Edges.LEAST;
    private static final int MOST = Edges.MOST;

    /** Twelve standards, of which number n was left at n, and falls by n a day. */
    private static Calibratory twelveOfTheirOwn() {
        Calibratory x = Edges.standards(12);
        for (int n = 0; n < 12; n++) x.calibrate(n, 0, n);
        x.pass(1);
        for (int n = 0; n < 12; n++) x.calibrate(n, 0, n);
        return x;
    }

    // ---- promise 15: slope

    @Says(promise = 15, value = "Returns the slope of an instrument as a double: one whole sum, as a double, divided by the other one.")
    static void slopeIsNotRounded(Checks checks) {
        checks.due("a third", Edges.drifted(10, 3, 1, 0).slope(0), 3.0 / 9.0);
        checks.due("a third down", Edges.drifted(10, 3, -1, 0).slope(0), -3.0 / 9.0);
        checks.due("a 7th", Edges.drifted(10, 7, 1, 0).slope(0), 7.0 / 49.0);
        checks.due("a change of 0", Edges.drifted(10, 7, 0, 0).slope(0), 0.0);
    }

    @Says(promise = 15, value = "one whole sum, as a double, divided by the other one.")
    static void sumsBeyondAnInt(Checks checks) {
        Calibratory x = Edges.standards(1);
        x.calibrate(0, 0, -99999);
        for (int n = 0; n < 480; n++) x.pass(999);
        x.calibrate(0, 99999, 0);
        long days = 480L * 999;
        checks.due("one point", x.slope(0), (double) (days * 199998) / (double) (days * days));
        x.pass(999);
        x.calibrate(0, -99999, 0);
        checks.due("two points", x.slope(0),
                (double) (days * 199998 - 999 * 99999) / (double) (days * days + 999 * 999));
    }

    @Says(promise = 15, value = "one whole sum, as a double, divided by the other one.")
    static void theSlopeIsNoSumOfQuotients(Checks checks) {
        Calibratory x = Edges.calibrated(1);
        x.pass(1);
        x.calibrate(0, 1, 0);
        x.pass(3);
        x.calibrate(0, 1, 0);
        checks.due("1 by 1 and 1 by 3", x.slope(0), 4.0 / 10.0);
    }

    @Says(promise = 15, value = "`instrument`: its number")
    static void slopeOfEachNumber(Checks checks) {
        Calibratory x = twelveOfTheirOwn();
        for (int n = 0; n < 12; n++) checks.due("of " + n, x.slope(n), 0.0 - n);
    }

    @Says(promise = 15, value = "Returns the slope; 0.0 without points.")
    static void slopeWithoutPoints(Checks checks) {
        Calibratory x = Edges.standards(1);
        checks.due("not calibrated", x.slope(0), 0.0);
        x.pass(5);
        x.calibrate(0, 7, 1);
        checks.due("calibrated once", x.slope(0), 0.0);
        x.calibrate(0, 7, 1);
        checks.due("twice on one day", x.slope(0), 0.0);
        x.pass(5);
        checks.due("days alone make no point", x.slope(0), 0.0);
    }

    @Says(promise = 15, value = "Throws `IndexOutOfBoundsException` if there is no such instrument")
    static void noSuchSlope(Checks checks) {
        Edges.dueNoSuch(checks, (x, n) -> x.slope(n));
    }

    // ---- promise 16: expected

    @Says(promise = 16, value = "Returns the error that is expected of an instrument some days behind its day.")
    static void daysCountFromItsDay(Checks checks) {
        Calibratory x = Edges.drifted(10, 2, 4, 1);
        checks.due("on its day", x.expected(0, 0), 1L);
        x.pass(50);
        checks.due("on its day, though days have passed", x.expected(0, 0), 1L);
        checks.due("3 days behind its day", x.expected(0, 3), 7L);
    }

    @Says(promise = 16, value = "`instrument`: its number")
    static void expectedOfEachNumber(Checks checks) {
        Calibratory x = twelveOfTheirOwn();
        for (int n = 0; n < 12; n++) checks.due("of " + n, x.expected(n, 3), -2L * n);
    }

    @Says(promise = 16, value = "`days`: 0 to 9999")
    static void daysAheadAtTheirEnds(Checks checks) {
        Calibratory x = Edges.drifted(10, 1, 2, 5);
        checks.due("0", x.expected(0, 0), 5L);
        checks.due("9999", x.expected(0, 9999), 5L + 2 * 9999);
    }

    @Says(promise = 16, value = "Returns the error.")
    static void theErrorMayBeBeyondAllTolerances(Checks checks) {
        Calibratory x = Edges.standards(1);
        x.calibrate(0, 0, -99999);
        x.pass(1);
        x.calibrate(0, 99999, 99999);
        checks.due("the greatest", x.expected(0, 9999), 99999L + 199998L * 9999);
        Calibratory y = Edges.standards(1);
        y.calibrate(0, 0, 99999);
        y.pass(1);
        y.calibrate(0, -99999, -99999);
        checks.due("the least", y.expected(0, 9999), -99999L - 199998L * 9999);
    }

    @Says(promise = 16, value = "Returns the error.")
    static void sumsOnTheWayBeyondAnInt(Checks checks) {
        Calibratory x = Edges.standards(1);
        x.calibrate(0, 0, -99999);
        for (int n = 0; n < 500; n++) x.pass(999);
        x.calibrate(0, 99999, 7);
        checks.due("9999 of 499500 days", x.expected(0, 9999), 7L + 199998L * 9999 / 499500L);
    }

    @Says(promise = 16, value = "Returns the error.")
    static void withoutPointsTheErrorStays(Checks checks) {
        Calibratory x = Edges.standards(1);
        x.calibrate(0, 99999, -3);
        checks.due("on its day", x.expected(0, 0), -3L);
        checks.due("9999 days behind it", x.expected(0, 9999), -3L);
    }

    @Says(promise = 16, value = "Throws `IndexOutOfBoundsException` if there is no such instrument")
    static void noSuchExpected(Checks checks) {
        Edges.dueNoSuch(checks, (x, n) -> x.expected(n, 1));
    }

    @Says(promise = 16, value = "Throws `IllegalArgumentException` if days is out of range")
    static void daysAheadTooFew(Checks checks) {
        for (int wrong : new int[] {-1, LEAST}) {
            Edges.dueRefused(checks, "days " + wrong, Edges.ARGUMENT, () -> Edges.calibrated(1), x -> x.expected(0, wrong));
        }
    }

    @Says(promise = 16, value = "Throws `IllegalArgumentException` if days is out of range")
    static void daysAheadTooMany(Checks checks) {
        for (int wrong : new int[] {10000, MOST}) {
            Edges.dueRefused(checks, "days " + wrong, Edges.ARGUMENT, () -> Edges.calibrated(1), x -> x.expected(0, wrong));
        }
    }

    @Says(promise = 16, value = "Throws `IllegalStateException` if it is not calibrated")
    static void nothingExpectedWhileNotCalibrated(Checks checks) {
        for (int days : new int[] {0, 1, 9999}) {
            Edges.dueRefused(checks, "not calibrated", Edges.STATE, () -> Edges.standards(1), x -> x.expected(0, days));
        }
        checks.due("calibrated", Edges.calibrated(1).expected(0, 0), 0L);
    }

    @Says(promise = 16, value = "Throws `IllegalStateException` if it is not calibrated")
    static void expectedWithoutTrust(Checks checks) {
        Calibratory x = Edges.calibrated(2);
        x.calibrate(0, 11, 0);
        x.pass(101);
        checks.due("suspect, and behind its due day", x.expected(1, 0), 0L);
    }

    @Says(promise = 16, value = "throws IndexOutOfBoundsException, IllegalArgumentException, IllegalStateException")
    static void expectedThrowsTheFirstNamed(Checks checks) {
        Calibratory x = Edges.standards(1);
        checks.dueThrow("no instrument, days", Edges.BOUNDS, () -> x.expected(1, -1));
        checks.dueThrow("no instrument, days too many", Edges.BOUNDS, () -> x.expected(NONE, 10000));
        checks.dueThrow("days, not calibrated", Edges.ARGUMENT, () -> x.expected(0, -1));
        checks.dueThrow("days too many, not calibrated", Edges.ARGUMENT, () -> x.expected(0, 10000));
    }

    // ---- promise 17: driftsOut

    @Says(promise = 17, value = "is above its tolerance for the first time, without its sign.")
    static void atTheToleranceItIsNotOut(Checks checks) {
        checks.due("up, 10 on day 10", Edges.drifted(10, 1, 1, 0).driftsOut(0), 11);
        checks.due("down, -10 on day 10", Edges.drifted(10, 1, -1, 0).driftsOut(0), 11);
        checks.due("left at the tolerance", Edges.drifted(10, 1, 0, 10).driftsOut(0), NONE);
        checks.due("left at the tolerance below", Edges.drifted(10, 1, 0, -10).driftsOut(0), NONE);
    }

    @Says(promise = 17, value = "is above its tolerance for the first time, without its sign.")
    static void theFirstTimeOnly(Checks checks) {
        checks.due("out, back within, out", Edges.drifted(10, 1, 1, -11).driftsOut(0), 0);
        checks.due("out above, back within, out", Edges.drifted(10, 1, -1, 11).driftsOut(0), 0);
        checks.due("over from the other side", Edges.drifted(10, 1, 1, -10).driftsOut(0), 21);
        checks.due("down from the other side", Edges.drifted(10, 1, -1, 10).driftsOut(0), 21);
    }

    @Says(promise = 17, value = "is above its tolerance for the first time, without its sign.")
    static void roundedDownAheadOfThat(Checks checks) {
        checks.due("a half a day up: 10 until day 21", Edges.drifted(10, 2, 1, 0).driftsOut(0), 22);
        checks.due("a half a day down: -11 from day 21", Edges.drifted(10, 2, -1, 0).driftsOut(0), 21);
    }

    @Says(promise = 17, value = "is above its tolerance for the first time, without its sign.")
    static void daysOfTheDriftCountFromItsDay(Checks checks) {
        Calibratory x = Edges.drifted(10, 1, 1, 0);
        x.pass(5);
        checks.due("days passed change it not", x.driftsOut(0), 11);
    }

    @Says(promise = 17, value = "`instrument`: its number")
    static void driftsOutOfEachNumber(Checks checks) {
        Calibratory x = Edges.standards(12);
        for (int n = 0; n < 12; n++) x.calibrate(n, 0, 0);
        x.pass(1);
        for (int n = 0; n < 12; n++) x.calibrate(n, 1, -n);
        for (int n = 0; n < 12; n++) checks.due("of " + n, x.driftsOut(n), n == 11 ? 0 : 11 + n);
    }

    @Says(promise = 17, value = "Returns 0 to 9999")
    static void outOnItsDay(Checks checks) {
        checks.due("left above", Edges.drifted(10, 1, 0, 11).driftsOut(0), 0);
        checks.due("left below", Edges.drifted(10, 1, 0, -11).driftsOut(0), 0);
        checks.due("left far above", Edges.drifted(9999, 1, 0, 99999).driftsOut(0), 0);
        checks.due("left far below", Edges.drifted(9999, 1, 0, -99999).driftsOut(0), 0);
        checks.due("a day later", Edges.drifted(10, 1, 1, 10).driftsOut(0), 1);
        checks.due("a day later below", Edges.drifted(10, 1, -1, -10).driftsOut(0), 1);
    }

    @Says(promise = 17, value = "Returns 0 to 9999; NONE if it is not within 9999 days")
    static void outOnDay9999(Checks checks) {
        checks.due("above 9998 on day 9999", Edges.drifted(9998, 1, 1, 0).driftsOut(0), 9999);
        checks.due("below -9998 on day 9999", Edges.drifted(9998, 1, -1, 0).driftsOut(0), 9999);
        checks.due("above 9998 on day 9998", Edges.drifted(9998, 1, 1, 1).driftsOut(0), 9998);
    }

    @Says(promise = 17, value = "NONE if it is not within 9999 days")
    static void notOutBeforeDay10000(Checks checks) {
        checks.due("9999 on day 9999", Edges.drifted(9999, 1, 1, 0).driftsOut(0), NONE);
        checks.due("-9999 on day 9999", Edges.drifted(9999, 1, -1, 0).driftsOut(0), NONE);
        checks.due("9998 on day 9999, from -1 on", Edges.drifted(9998, 1, 1, -1).driftsOut(0), NONE);
        checks.due("no drift", Edges.drifted(1, 1, 0, 0).driftsOut(0), NONE);
    }

    @Says(promise = 17, value = "or it is not calibrated.")
    static void noDriftWhileNotCalibrated(Checks checks) {
        Calibratory x = Edges.standards(1);
        checks.due("not calibrated", x.driftsOut(0), NONE);
        x.pass(999);
        checks.due("though days pass", x.driftsOut(0), NONE);
        x.calibrate(0, 0, 11);
        checks.due("calibrated", x.driftsOut(0), 0);
    }

    @Says(promise = 17, value = "or it is not calibrated.")
    static void driftOfASuspectOne(Checks checks) {
        Calibratory x = Edges.calibrated(2);
        x.calibrate(1, 0, 11);
        x.calibrate(0, 11, 0);
        x.pass(999);
        checks.due("suspect", x.isSuspect(1), true);
        checks.due("but calibrated", x.driftsOut(1), 0);
    }

    @Says(promise = 17, value = "Throws `IndexOutOfBoundsException` if there is no such instrument")
    static void noSuchDrift(Checks checks) {
        Edges.dueNoSuch(checks, (x, n) -> x.driftsOut(n));
    }

    // ---- promise 18: uncertainty

    @Says(promise = 18, value = "Returns the uncertainty of an instrument with its chain.")
    static void uncertaintyByTheReferenceOfNow(Checks checks) {
        Calibratory x = new Calibratory();
        x.tell(NONE, 10, 3, 10);
        x.tell(0, 10, 4, 10);
        x.tell(NONE, 10, 12, 10);
        checks.due("over 0, of which none is calibrated", x.uncertainty(1), 5);
        x.refer(0, 2);
        checks.due("the reference's changes", x.uncertainty(0), 13);
        checks.due("and its own with it", x.uncertainty(1), 14);
        x.refer(1, NONE);
        checks.due("a standard now", x.uncertainty(1), 4);
    }

    @Says(promise = 18, value = "`instrument`: its number")
    static void uncertaintyOfEachNumber(Checks checks) {
        Calibratory x = new Calibratory();
        for (int n = 0; n < 12; n++) x.tell(NONE, 10, 70 + n, 10);
        for (int n = 0; n < 12; n++) checks.due("of " + n, x.uncertainty(n), 70 + n);
    }

    @Says(promise = 18, value = "Returns the uncertainty.")
    static void uncertaintyFromNoneToTheMost(Checks checks) {
        Calibratory none = new Calibratory();
        for (int n = 0; n < 12; n++) none.tell(n - 1, 10, 0, 10);
        for (int n = 0; n < 12; n++) checks.due("0 over a chain of " + (n + 1), none.uncertainty(n), 0);
        Calibratory most = new Calibratory();
        for (int n = 0; n < 12; n++) most.tell(n - 1, 10, 999, 10);
        int[] due = {999, 1413, 1731, 1999, 2235, 2449, 2645, 2828, 3000, 3162, 3317, 3465};
        for (int n = 0; n < 12; n++) checks.due("999 over a chain of " + (n + 1), most.uncertainty(n), due[n]);
    }

    @Says(promise = 18, value = "Returns the uncertainty.")
    static void roundedUpAtEachOfTheChain(Checks checks) {
        Calibratory x = new Calibratory();
        for (int n = 0; n < 12; n++) x.tell(n - 1, 10, 1, 10);
        for (int n = 0; n < 12; n++) checks.due("1 over a chain of " + (n + 1), x.uncertainty(n), n + 1);
    }

    @Says(promise = 18, value = "Throws `IndexOutOfBoundsException` if there is no such instrument")
    static void noSuchUncertainty(Checks checks) {
        Edges.dueNoSuch(checks, (x, n) -> x.uncertainty(n));
    }

    // ---- promise 19: limit

    @Says(promise = 19, value = "Returns the limit of an instrument.")
    static void limitIsOfTheUncertaintyWithItsChain(Checks checks) {
        Calibratory x = new Calibratory();
        x.tell(NONE, 10, 3, 10);
        x.tell(0, 10, 4, 10);
        checks.due("10 less 5", x.limit(1), 5);
        x.refer(1, NONE);
        checks.due("10 less 4", x.limit(1), 6);
    }

    @Says(promise = 19, value = "`instrument`: its number")
    static void limitOfEachNumber(Checks checks) {
        Calibratory x = new Calibratory();
        for (int n = 0; n < 12; n++) x.tell(NONE, 1000 + n, 10 * n, 10);
        for (int n = 0; n < 12; n++) checks.due("of " + n, x.limit(n), 1000 - 9 * n);
    }

    @Says(promise = 19, value = "Returns the limit.")
    static void limitAtIts0(Checks checks) {
        Calibratory x = new Calibratory();
        x.tell(NONE, 5, 3, 10);
        x.tell(0, 6, 4, 10);
        x.tell(0, 5, 4, 10);
        x.tell(0, 4, 4, 10);
        checks.due("1 above", x.limit(1), 1);
        checks.due("the same", x.limit(2), 0);
        checks.due("1 below", x.limit(3), 0);
    }

    @Says(promise = 19, value = "Throws `IndexOutOfBoundsException` if there is no such instrument")
    static void noSuchLimit(Checks checks) {
        Edges.dueNoSuch(checks, (x, n) -> x.limit(n));
    }

    public static void main(String[] args) throws IllegalAccessException {
        Edges.run(DriftEdgesTest.class);
    }
}
