/** The edges of promises 20 to 24, each on its own: measurements, isCalledBack, calledBack, calledBackByLog, atStake. */
public final class RecallsEdgesTest {
    private static final int NONE = Calibratory.NONE;
    private static final int LEAST = Edges.LEAST;
    private static final int MOST = Edges.MOST;

    private static Calibratory measured(int measurements) {
        Calibratory x = Edges.calibrated(1);
        for (int m = 0; m < measurements; m++) x.measure(0);
        return x;
    }

    private static String marks(Calibratory x) {
        StringBuilder text = new StringBuilder();
        int measurements = x.measurements();
        for (int m = 0; m < measurements; m++) text.append(x.isCalledBack(m) ? 'x' : '.');
        return text.toString();
    }

    // ---- promise 20: measurements

    @Says(promise = 20, value = "Returns how many measurements were made.")
    static void noMeasurementsAtFirst(Checks checks) {
        checks.due("of a new object", new Calibratory().measurements(), 0);
        checks.due("of a calibrated one", Edges.calibrated(1).measurements(), 0);
    }

    @Says(promise = 20, value = "Returns how many measurements were made.")
    static void countedUpTo200(Checks checks) {
        Calibratory x = Edges.calibrated(1);
        for (int n = 1; n <= 200; n++) {
            x.measure(0);
            checks.due("made " + n, x.measurements(), n);
        }
        checks.dueThrow("refused", Edges.STATE, () -> x.measure(0));
        checks.due("behind a refused one", x.measurements(), 200);
    }

    @Says(promise = 20, value = "Returns how many measurements were made.")
    static void thoseCalledBackWereMadeToo(Checks checks) {
        Calibratory x = measured(3);
        x.calibrate(0, 11, 0);
        checks.due("called back", x.calledBack(), 3);
        checks.due("made", x.measurements(), 3);
    }

    // ---- promise 21: isCalledBack

    @Says(promise = 21, value = "Tells whether a measurement is called back.")
    static void notAsLongAsNothingFailed(Checks checks) {
        Calibratory x = measured(1);
        checks.due("made", x.isCalledBack(0), false);
        x.calibrate(0, 10, 0);
        checks.due("at the tolerance", x.isCalledBack(0), false);
        x.calibrate(0, 11, 0);
        checks.due("failed behind a good calibration", x.isCalledBack(0), false);
    }

    @Says(promise = 21, value = "`measurement`: its number")
    static void eachMeasurementOnItsOwn(Checks checks) {
        Calibratory x = Edges.standards(2);
        x.calibrate(0, 0, 0);
        x.calibrate(1, 0, 0);
        for (int m = 0; m < 200; m++) x.measure(m == 0 || m == 199 ? 0 : 1);
        x.calibrate(0, 11, 0);
        checks.due("the first", x.isCalledBack(0), true);
        checks.due("the second", x.isCalledBack(1), false);
        checks.due("the last but one", x.isCalledBack(198), false);
        checks.due("the last", x.isCalledBack(199), true);
    }

    @Says(promise = 21, value = "Returns whether it is.")
    static void calledBackForGood(Checks checks) {
        Calibratory x = measured(1);
        x.calibrate(0, 11, 0);
        checks.due("called back", x.isCalledBack(0), true);
        x.calibrate(0, 0, 0);
        x.measure(0);
        x.calibrate(0, 11, 0);
        checks.due("still", marks(x), "xx");
    }

    @Says(promise = 21, value = "Throws `IndexOutOfBoundsException` if there is no such measurement")
    static void noSuchMeasurement(Checks checks) {
        for (int count : new int[] {0, 1, 5, 199, 200}) {
            Calibratory x = measured(count);
            for (int wrong : new int[] {LEAST, -200, -2, -1, count, count + 1, 200, 201, MOST}) {
                checks.dueThrow(wrong + " of " + count, Edges.BOUNDS, () -> x.isCalledBack(wrong));
            }
            checks.due("those that are there", marks(x), ".".repeat(count));
        }
    }

    @Says(promise = 21, value = "Throws `IndexOutOfBoundsException` if there is no such measurement")
    static void aRefusedMeasurementIsNone(Checks checks) {
        Calibratory x = Edges.chained(1);
        checks.dueThrow("refused", Edges.STATE, () -> x.measure(0));
        checks.dueThrow("so it is not there", Edges.BOUNDS, () -> x.isCalledBack(0));
    }

    // ---- promises 22 and 23: calledBack and calledBackByLog

    @Says(promise = 22, value = "Returns how many measurements are called back.")
    static void countedOnceEach(Checks checks) {
        Calibratory x = Edges.calibrated(3);
        checks.due("none are there", x.calledBack(), 0);
        x.measure(2);
        x.measure(1);
        x.measure(0);
        checks.due("none are called back", x.calledBack(), 0);
        x.calibrate(2, 11, 0);
        checks.due("one", x.calledBack(), 1);
        x.calibrate(1, 11, 0);
        checks.due("one more", x.calledBack(), 2);
        x.calibrate(0, 11, 0);
        checks.due("all", x.calledBack(), 3);
        x.calibrate(0, 11, 0);
        checks.due("all still", x.calledBack(), 3);
    }

    @Says(promise = 22, value = "Returns how many measurements are called back.")
    static void calledBackTwiceCountsOnce(Checks checks) {
        Calibratory x = Edges.calibrated(2);
        x.measure(1);
        x.calibrate(0, 11, 0);
        x.calibrate(1, 11, 0);
        checks.due("by 0, and by its own failure", x.calledBack(), 1);
    }

    @Says(promise = 22, value = "Returns how many measurements are called back.")
    static void all200CalledBack(Checks checks) {
        Calibratory x = measured(200);
        x.calibrate(0, 11, 0);
        checks.due("all", x.calledBack(), 200);
    }

    @Says(promise = 23, value = "Returns the same, found by going through all that was ever done, from the beginning.")
    static void theLogOfNothing(Checks checks) {
        checks.due("of a new object", new Calibratory().calledBackByLog(), 0);
        checks.due("without measurements", Edges.calibrated(2).calledBackByLog(), 0);
        checks.due("without failures", measured(3).calledBackByLog(), 0);
    }

    @Says(promise = 23, value = "Returns the same, found by going through all that was ever done, from the beginning.")
    static void theLogOf200(Checks checks) {
        Calibratory x = measured(200);
        x.calibrate(0, 11, 0);
        checks.due("all", x.calledBackByLog(), 200);
    }

    @Says(promise = 23, value = "Returns the same")
    static void theLogCountsOnceToo(Checks checks) {
        Calibratory x = Edges.calibrated(2);
        x.measure(1);
        x.calibrate(0, 11, 0);
        checks.due("by 0", x.calledBackByLog(), 1);
        x.calibrate(1, 11, 0);
        checks.due("by its own failure again", x.calledBackByLog(), 1);
        x.calibrate(1, 11, 0);
        checks.due("and by nothing", x.calledBackByLog(), 1);
    }

    @Says(promise = 23, value = "found by going through all that was ever done, from the beginning.")
    static void theLogKnowsWhatCameFirst(Checks checks) {
        Calibratory x = Edges.calibrated(2);
        x.measure(1);
        x.calibrate(0, 0, 0);
        x.measure(0);
        x.calibrate(0, 11, 0);
        checks.due("since the good calibration alone", x.calledBackByLog(), 1);
        x.measure(0);
        checks.due("not what came behind the failure", x.calledBackByLog(), 1);
        x.refer(1, NONE);
        x.calibrate(1, 11, 0);
        checks.due("1 with what it measured first", x.calledBackByLog(), 2);
        checks.due("the same", x.calledBack(), 2);
        checks.due("each", marks(x), "xx.");
    }

    @Says(promise = 23, value = "found by going through all that was ever done, from the beginning.")
    static void theLogKnowsTheReferenceOfThen(Checks checks) {
        Calibratory x = Edges.calibrated(3);
        x.measure(2);
        x.refer(2, NONE);
        x.refer(1, NONE);
        x.calibrate(0, 11, 0);
        checks.due("over references that are gone", x.calledBackByLog(), 1);
        x.calibrate(2, 0, 0);
        x.measure(2);
        x.refer(2, 0);
        x.calibrate(0, 11, 0);
        checks.due("not over one that came later", x.calledBackByLog(), 1);
        checks.due("each", marks(x), "x.");
    }

    @Says(promise = 23, value = "found by going through all that was ever done, from the beginning.")
    static void theLogKnowsWhatWasCalibratedInBetween(Checks checks) {
        Calibratory x = Edges.calibrated(3);
        x.measure(2);
        x.measure(1);
        x.calibrate(1, 0, 0);
        x.calibrate(0, 11, 0);
        checks.due("nothing since the last of 1", x.calledBackByLog(), 0);
        checks.due("the same", x.calledBack(), 0);
        Calibratory y = Edges.calibrated(2);
        y.measure(1);
        y.calibrate(0, 11, 0);
        y.calibrate(1, 0, 0);
        checks.due("calibrated behind the failure, which stays", y.calledBackByLog(), 1);
    }

    @Says(promise = 23, value = "found by going through all that was ever done, from the beginning.")
    static void theLogOverAChainThatWasTurned(Checks checks) {
        Calibratory x = Edges.turned();
        checks.due("not what came behind the failure", x.calledBackByLog(), 1);
        checks.due("the same", x.calledBack(), 1);
        checks.due("each", marks(x), "x.");
        x.calibrate(1, 11, 0);
        checks.due("over the suspect 2 back to 0", x.calledBackByLog(), 2);
        checks.due("the same then", x.calledBack(), 2);
    }

    @Says(promise = 23, value = "found by going through all that was ever done, from the beginning.")
    static void theLogLeavesOutWhatWasRefused(Checks checks) {
        Calibratory x = Edges.calibrated(2);
        x.measure(1);
        checks.dueThrow("refused", Edges.ARGUMENT, () -> x.calibrate(0, 100000, 0));
        x.pass(101);
        checks.dueThrow("refused too", Edges.STATE, () -> x.calibrate(1, 11, 0));
        checks.due("nothing failed", x.calledBackByLog(), 0);
    }

    // ---- promise 24: atStake

    @Says(promise = 24, value = "Returns how many measurements would be called back, that are not yet, if an instrument was calibrated now and found out of tolerance")
    static void asManyAsTheCalibrationFindsThen(Checks checks) {
        for (int n = 0; n < 12; n++) {
            Calibratory x = Edges.calibrated(12);
            for (int m = 0; m < 12; m++) x.measure(m);
            checks.due("at stake over " + n, x.atStake(n), 12 - n);
            checks.due("called back by it", x.calibrate(n, 11, 0), 12 - n);
            checks.due("nothing then", x.atStake(n), 0);
        }
    }

    @Says(promise = 24, value = "that are not yet")
    static void thoseCalledBackAreNotAtStake(Checks checks) {
        Calibratory x = Edges.calibrated(3);
        x.measure(2);
        x.measure(1);
        x.measure(0);
        x.calibrate(1, 11, 0);
        checks.due("of 0 its own alone", x.atStake(0), 1);
        checks.due("of 1 none", x.atStake(1), 0);
        checks.due("of 2, suspect, none that are not yet", x.atStake(2), 0);
    }

    @Says(promise = 24, value = "if an instrument was calibrated now and found out of tolerance")
    static void onlyWhatCameSinceItsLast(Checks checks) {
        Calibratory x = measured(3);
        checks.due("since its first", x.atStake(0), 3);
        x.calibrate(0, 0, 0);
        checks.due("since a good calibration", x.atStake(0), 0);
        x.measure(0);
        checks.due("one since then", x.atStake(0), 1);
    }

    @Says(promise = 24, value = "whether its reference is trusted or not.")
    static void atStakeWithoutATrustedReference(Checks checks) {
        Calibratory x = Edges.calibrated(3);
        x.measure(2);
        x.pass(101);
        checks.dueThrow("it can not be calibrated", Edges.STATE, () -> x.calibrate(2, 11, 0));
        checks.due("behind the due day", x.atStake(2), 1);
        x.tell(NONE, 10, 1, 100);
        x.refer(2, 3);
        checks.due("a reference that is not calibrated", x.atStake(2), 1);
        Calibratory y = Edges.calibrated(3);
        y.calibrate(1, 10, 0);
        y.measure(1);
        y.measure(2);
        y.calibrate(0, 11, 0);
        checks.due("a suspect reference", y.isSuspect(1), true);
        checks.due("which 2 was not calibrated with since", y.atStake(2), 1);
    }

    @Says(promise = 24, value = "if an instrument was calibrated now and found out of tolerance")
    static void atStakeOverASuspectOne(Checks checks) {
        Calibratory x = Edges.turned();
        checks.due("2 is suspect", x.isSuspect(2), true);
        checks.due("and 0 was calibrated with it", x.atStake(2), 1);
        checks.due("over it from 1", x.atStake(1), 1);
        checks.due("0 by itself", x.atStake(0), 1);
    }

    @Says(promise = 24, value = "`instrument`: its number")
    static void atStakeOfEachNumber(Checks checks) {
        Calibratory x = Edges.standards(12);
        for (int n = 0; n < 12; n++) {
            x.calibrate(n, 0, 0);
            for (int times = 0; times < n; times++) x.measure(n);
        }
        for (int n = 0; n < 12; n++) checks.due("of " + n, x.atStake(n), n);
    }

    @Says(promise = 24, value = "Returns how many; 0 if it is not calibrated.")
    static void nothingAtStakeWhileNotCalibrated(Checks checks) {
        Calibratory x = Edges.standards(2);
        checks.due("without measurements", x.atStake(0), 0);
        x.calibrate(1, 0, 0);
        x.measure(1);
        checks.due("with those of others", x.atStake(0), 0);
        x.refer(1, 0);
        checks.due("with those of one that refers to it", x.atStake(0), 0);
    }

    @Says(promise = 24, value = "Returns how many; 0 if it is not calibrated.")
    static void noneAndAllAtStake(Checks checks) {
        checks.due("calibrated, without measurements", Edges.calibrated(1).atStake(0), 0);
        checks.due("all that there can be", measured(200).atStake(0), 200);
    }

    @Says(promise = 24, value = "Throws `IndexOutOfBoundsException` if there is no such instrument")
    static void noSuchAtStake(Checks checks) {
        Edges.dueNoSuch(checks, (x, n) -> x.atStake(n));
    }

    public static void main(String[] args) throws IllegalAccessException {
        Edges.run(RecallsEdgesTest.class);
    }
}
