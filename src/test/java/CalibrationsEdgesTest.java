/** The edges of promises 7 and 8, each on its own: calibrate and measure. */
public final class CalibrationsEdgesTest {
    private static final int NONE = Calibratory.NONE;
    private static final int LEAST = Edges.LEAST;
    private static final int MOST = Edges.MOST;

    // ---- promise 7: calibrate

    @Says(promise = 7, value = "Calibrates an instrument.")
    static void calibratesNoOtherOne(Checks checks) {
        Calibratory x = Edges.standards(3);
        x.calibrate(1, 0, 0);
        checks.due("it alone", x.dueOf(0) + " " + x.dueOf(1) + " " + x.dueOf(2), "-1 100 -1");
    }

    @Says(promise = 7, value = "`instrument`: its number")
    static void calibratesTheFirstAndTheLast(Checks checks) {
        for (int n : new int[] {0, 11}) {
            Calibratory x = Edges.standards(12);
            x.calibrate(n, 0, 0);
            for (int other = 0; other < 12; other++) {
                checks.due(n + " calibrated, " + other, x.dueOf(other), other == n ? 100 : NONE);
            }
        }
    }

    @Says(promise = 7, value = "`found`: -99999 to 99999: the error that was found")
    static void foundAtItsEnds(Checks checks) {
        for (int found : new int[] {-99999, 99999}) {
            Calibratory x = Edges.calibrated(1);
            x.measure(0);
            checks.due("found " + found, x.calibrate(0, found, 0), 1);
            checks.due("it failed", x.failures(0), 1);
            x.pass(1);
            checks.due("found again", x.calibrate(0, found, 0), 0);
            checks.due("by one day", x.slope(0), (double) found);
        }
    }

    @Says(promise = 7, value = "`found`: -99999 to 99999: the error that was found")
    static void foundNothing(Checks checks) {
        Calibratory x = Edges.calibrated(1);
        x.measure(0);
        checks.due("found 0", x.calibrate(0, 0, 0), 0);
        checks.due("no failure", x.failures(0), 0);
    }

    @Says(promise = 7, value = "`left`: -99999 to 99999: the error that was left")
    static void leftAtItsEnds(Checks checks) {
        for (int left : new int[] {-99999, 99999}) {
            Calibratory x = Edges.standards(1);
            checks.due("left " + left, x.calibrate(0, 0, left), 0);
            checks.due("expected", x.expected(0, 0), (long) left);
        }
    }

    @Says(promise = 7, value = "Returns how many measurements were called back by it that had not been before.")
    static void noneCalledBack(Checks checks) {
        Calibratory x = Edges.standards(1);
        checks.due("a first calibration", x.calibrate(0, 99999, 0), 0);
        checks.due("a failure without measurements", x.calibrate(0, 99999, 0), 0);
        x.measure(0);
        checks.due("no failure, with one", x.calibrate(0, 10, 0), 0);
    }

    @Says(promise = 7, value = "Returns how many measurements were called back by it that had not been before.")
    static void thoseCalledBackBeforeDoNotCount(Checks checks) {
        Calibratory x = Edges.calibrated(2);
        x.measure(1);
        x.measure(0);
        x.refer(1, NONE);
        checks.due("one by 1", x.calibrate(1, 11, 0), 1);
        checks.due("one more by 0", x.calibrate(0, 11, 0), 1);
        Calibratory y = Edges.calibrated(2);
        y.measure(1);
        y.calibrate(0, 11, 0);
        checks.due("1 is suspect since", y.calibrate(1, 11, 0), 0);
        checks.due("called back once", y.calledBack(), 1);
    }

    @Says(promise = 7, value = "Returns how many measurements were called back by it that had not been before.")
    static void someCalledBackBefore(Checks checks) {
        Calibratory x = Edges.calibrated(3);
        x.measure(2);
        x.measure(1);
        x.refer(2, NONE);
        x.refer(1, NONE);
        x.pass(1);
        x.measure(0);
        checks.due("by 1, over 2 too", x.calibrate(1, 11, 0), 2);
        checks.due("by 0, its own alone", x.calibrate(0, 11, 0), 1);
    }

    @Says(promise = 7, value = "Returns how many measurements were called back by it that had not been before.")
    static void allThatThereCanBe(Checks checks) {
        Calibratory x = Edges.calibrated(2);
        for (int n = 0; n < 200; n++) x.measure(n % 2);
        checks.due("two hundred", x.calibrate(0, 11, 0), 200);
        checks.due("once", x.calibrate(0, 11, 0), 0);
    }

    @Says(promise = 7, value = "Throws `IndexOutOfBoundsException` if there is no such instrument")
    static void noSuchToCalibrate(Checks checks) {
        Edges.dueNoSuch(checks, (x, n) -> x.calibrate(n, 0, 0));
        for (int wrong : new int[] {LEAST, NONE, 2, MOST}) {
            Edges.dueRefused(checks, "calibrate " + wrong, Edges.BOUNDS, () -> Edges.calibrated(2),
                    x -> x.calibrate(wrong, 0, 0));
        }
    }

    private static void dueOutOfRange(Checks checks, int found, int left) {
        for (int number : new int[] {0, 1}) {
            Calibratory x = Edges.calibrated(2);
            x.measure(1);
            Edges.dueRefused(checks, "found " + found + ", left " + left, Edges.ARGUMENT, x,
                    () -> x.calibrate(number, found, left));
        }
    }

    @Says(promise = 7, value = "Throws `IllegalArgumentException` if found or left is out of range")
    static void foundTooSmall(Checks checks) {
        for (int wrong : new int[] {-100000, LEAST + 1, LEAST}) dueOutOfRange(checks, wrong, 0);
    }

    @Says(promise = 7, value = "Throws `IllegalArgumentException` if found or left is out of range")
    static void foundTooLarge(Checks checks) {
        for (int wrong : new int[] {100000, MOST}) dueOutOfRange(checks, wrong, 0);
    }

    @Says(promise = 7, value = "Throws `IllegalArgumentException` if found or left is out of range")
    static void leftTooSmall(Checks checks) {
        for (int wrong : new int[] {-100000, LEAST + 1, LEAST}) dueOutOfRange(checks, 11, wrong);
    }

    @Says(promise = 7, value = "Throws `IllegalArgumentException` if found or left is out of range")
    static void leftTooLarge(Checks checks) {
        for (int wrong : new int[] {100000, MOST}) dueOutOfRange(checks, 11, wrong);
    }

    @Says(promise = 7, value = "Throws `IllegalStateException` if it has a reference that is not trusted")
    static void referenceNotCalibrated(Checks checks) {
        Calibratory x = Edges.chained(2);
        Edges.dueRefused(checks, "not calibrated", Edges.STATE, x, () -> x.calibrate(1, 0, 0));
        x.calibrate(0, 0, 0);
        checks.due("calibrated", x.calibrate(1, 0, 0), 0);
    }

    @Says(promise = 7, value = "Throws `IllegalStateException` if it has a reference that is not trusted")
    static void referenceBehindItsDueDay(Checks checks) {
        Calibratory x = Edges.calibrated(2);
        x.pass(100);
        checks.due("on its due day", x.calibrate(1, 0, 0), 0);
        x.pass(1);
        Edges.dueRefused(checks, "behind it", Edges.STATE, x, () -> x.calibrate(1, 11, 0));
    }

    @Says(promise = 7, value = "Throws `IllegalStateException` if it has a reference that is not trusted")
    static void referenceSuspect(Checks checks) {
        Calibratory x = Edges.calibrated(3);
        x.calibrate(0, 11, 0);
        Edges.dueRefused(checks, "suspect", Edges.STATE, x, () -> x.calibrate(2, 11, 0));
        x.calibrate(1, 0, 0);
        checks.due("no longer", x.calibrate(2, 0, 0), 0);
    }

    @Says(promise = 7, value = "Throws `IllegalStateException` if it has a reference that is not trusted")
    static void theReferencesReferenceNotInForce(Checks checks) {
        Calibratory x = new Calibratory();
        x.tell(NONE, 10, 1, 2);
        for (int n = 1; n < 12; n++) x.tell(n - 1, 10, 1, 100);
        for (int n = 0; n < 12; n++) x.calibrate(n, 0, 0);
        x.pass(3);
        for (int n = 1; n < 12; n++) {
            int number = n;
            checks.dueThrow("over " + n + " to the standard", Edges.STATE, () -> x.calibrate(number, 0, 0));
        }
        checks.due("the standard itself", x.calibrate(0, 0, 0), 0);
        checks.due("then all may", x.calibrate(11, 0, 0), 0);
    }

    @Says(promise = 7, value = "Throws `IllegalStateException` if it has a reference that is not trusted")
    static void itsOwnTrustIsNotAsked(Checks checks) {
        Calibratory x = Edges.calibrated(2);
        x.calibrate(0, 11, 0);
        checks.due("suspect itself", x.calibrate(1, 0, 0), 0);
        x.pass(500);
        checks.due("a standard behind its due day", x.calibrate(0, 10, 0), 0);
        checks.due("itself behind its due day", x.calibrate(1, 10, 0), 0);
    }

    @Says(promise = 7, value = "Throws `IllegalStateException` if it has a reference that is not trusted")
    static void aSuspectStandardMayBe(Checks checks) {
        Calibratory x = Edges.calibrated(2);
        x.refer(1, NONE);
        x.calibrate(0, 11, 0);
        checks.due("suspect", x.isSuspect(1), true);
        checks.due("it has no reference", x.calibrate(1, 0, 0), 0);
        checks.due("no longer suspect", x.isSuspect(1), false);
    }

    @Says(promise = 7, value = "Throws `IllegalStateException` if it has a reference that is not trusted")
    static void theReferenceIsAskedAheadOfTheFailure(Checks checks) {
        Calibratory x = Edges.calibrated(2);
        x.measure(1);
        x.refer(1, NONE);
        x.refer(0, 1);
        checks.due("a failure that makes its own reference suspect", x.calibrate(0, 11, 0), 1);
        checks.due("the reference", x.isSuspect(1), true);
        Edges.dueRefused(checks, "the next calibration", Edges.STATE, x, () -> x.calibrate(0, 0, 0));
    }

    @Says(promise = 7, value = "throws IndexOutOfBoundsException, IllegalArgumentException, IllegalStateException")
    static void calibrateThrowsTheFirstNamed(Checks checks) {
        Calibratory x = Edges.chained(2);
        checks.dueThrow("no instrument, found", Edges.BOUNDS, () -> x.calibrate(2, 100000, 0));
        checks.dueThrow("no instrument, left", Edges.BOUNDS, () -> x.calibrate(NONE, 0, -100000));
        checks.dueThrow("found, no trust", Edges.ARGUMENT, () -> x.calibrate(1, -100000, 0));
        checks.dueThrow("left, no trust", Edges.ARGUMENT, () -> x.calibrate(1, 0, 100000));
    }

    // ---- promise 8: measure

    @Says(promise = 8, value = "Makes a measurement.")
    static void makesOne(Checks checks) {
        Calibratory x = Edges.calibrated(1);
        x.measure(0);
        checks.due("there is one", x.measurements(), 1);
        checks.due("not called back", x.isCalledBack(0), false);
    }

    @Says(promise = 8, value = "`instrument`: the number of the instrument that is used")
    static void measuresWithTheFirstAndTheLast(Checks checks) {
        Calibratory x = Edges.standards(12);
        for (int n = 0; n < 12; n++) x.calibrate(n, 0, 0);
        x.measure(0);
        x.measure(11);
        x.measure(11);
        checks.due("with the last", x.atStake(11), 2);
        checks.due("with the first", x.atStake(0), 1);
        checks.due("with another", x.atStake(1), 0);
    }

    @Says(promise = 8, value = "Returns the number of the measurement, from 0 on.")
    static void numberedFromZeroOverAllInstruments(Checks checks) {
        Calibratory x = Edges.calibrated(2);
        checks.due("the first", x.measure(1), 0);
        checks.due("the second, with another", x.measure(0), 1);
        checks.dueThrow("refused", Edges.BOUNDS, () -> x.measure(2));
        x.calibrate(0, 11, 0);
        checks.due("the third, though two are called back", x.measure(0), 2);
    }

    @Says(promise = 8, value = "Throws `IndexOutOfBoundsException` if there is no such instrument")
    static void noSuchToMeasureWith(Checks checks) {
        Edges.dueNoSuch(checks, (x, n) -> x.measure(n));
        for (int wrong : new int[] {LEAST, NONE, 2, MOST}) {
            Edges.dueRefused(checks, "measure " + wrong, Edges.BOUNDS, () -> Edges.calibrated(2),
                    x -> x.measure(wrong));
        }
    }

    @Says(promise = 8, value = "Throws `IllegalStateException` if it is not trusted")
    static void notCalibrated(Checks checks) {
        Calibratory x = Edges.chained(2);
        x.calibrate(0, 0, 0);
        Edges.dueRefused(checks, "not calibrated", Edges.STATE, x, () -> x.measure(1));
        x.calibrate(1, 0, 0);
        checks.due("calibrated", x.measure(1), 0);
    }

    @Says(promise = 8, value = "Throws `IllegalStateException` if it is not trusted")
    static void behindItsDueDay(Checks checks) {
        Calibratory x = Edges.calibrated(1);
        x.pass(100);
        checks.due("on its due day", x.measure(0), 0);
        x.pass(1);
        Edges.dueRefused(checks, "behind it", Edges.STATE, x, () -> x.measure(0));
    }

    @Says(promise = 8, value = "Throws `IllegalStateException` if it is not trusted")
    static void suspect(Checks checks) {
        Calibratory x = Edges.calibrated(2);
        x.calibrate(0, 11, 0);
        Edges.dueRefused(checks, "suspect", Edges.STATE, x, () -> x.measure(1));
        checks.due("the failed one itself is calibrated", x.measure(0), 0);
    }

    @Says(promise = 8, value = "Throws `IllegalStateException` if it is not trusted")
    static void oneOfItsChainNotInForce(Checks checks) {
        Calibratory x = new Calibratory();
        x.tell(NONE, 10, 1, 2);
        for (int n = 1; n < 12; n++) x.tell(n - 1, 10, 1, 100);
        for (int n = 0; n < 12; n++) x.calibrate(n, 0, 0);
        x.pass(2);
        checks.due("on the standard's due day", x.measure(11), 0);
        x.pass(1);
        checks.dueThrow("behind it, at the end of the chain", Edges.STATE, () -> x.measure(11));
        checks.dueThrow("behind it, next to it", Edges.STATE, () -> x.measure(1));
        x.refer(1, NONE);
        checks.due("a chain without it", x.measure(11), 1);
    }

    @Says(promise = 8, value = "or there are 200 measurements")
    static void noTwoHundredAndFirst(Checks checks) {
        Calibratory x = Edges.calibrated(1);
        for (int n = 0; n < 199; n++) x.measure(0);
        checks.due("the last one", x.measure(0), 199);
        checks.dueThrow("one more", Edges.STATE, () -> x.measure(0));
        checks.due("there are 200", x.measurements(), 200);
        checks.due("the last one is there", x.isCalledBack(199), false);
        checks.due("they all are recalled", x.calibrate(0, 11, 0), 200);
        checks.dueThrow("those called back count still", Edges.STATE, () -> x.measure(0));
        checks.due("there are 200 still", x.measurements(), 200);
    }

    @Says(promise = 8, value = "throws IndexOutOfBoundsException, IllegalStateException")
    static void measureThrowsTheFirstNamed(Checks checks) {
        Calibratory x = Edges.calibrated(1);
        for (int n = 0; n < 200; n++) x.measure(0);
        checks.dueThrow("no instrument, though full", Edges.BOUNDS, () -> x.measure(1));
        checks.dueThrow("none, though full", Edges.BOUNDS, () -> x.measure(NONE));
        x.pass(101);
        checks.dueThrow("both of the state", Edges.STATE, () -> x.measure(0));
    }

    public static void main(String[] args) throws IllegalAccessException {
        Edges.run(CalibrationsEdgesTest.class);
    }
}
