/** The edges of the sentences that stand ahead of the promises, each on its own. */
public final class TermsEdgesTest {
    private static final int NONE = Calibratory.NONE;

    private static Calibratory withAHistory() {
        Calibratory x = Edges.calibrated(3);
        x.measure(2);
        x.measure(1);
        x.pass(3);
        x.calibrate(1, 11, 4);
        x.refer(2, 0);
        x.measure(0);
        return x;
    }

    @Says(promise = 0, value = "what was found out of tolerance calls back all that was measured with it, and all that was calibrated with it.")
    static void bothAreCalledBack(Checks checks) {
        Calibratory x = Edges.calibrated(2);
        x.measure(0);
        checks.due("found in tolerance", x.calibrate(0, 10, 0), 0);
        x.calibrate(1, 0, 0);
        x.measure(0);
        checks.due("found out of tolerance", x.calibrate(0, 11, 0), 1);
        checks.due("measured with it", x.isCalledBack(1), true);
        checks.due("calibrated with it", x.isSuspect(1), true);
    }

    @Says(promise = 0, value = "An object is used for at most 512 calls after it has been made")
    static void theLastCallsAreAnsweredToo(Checks checks) {
        Calibratory x = Edges.standards(1);
        for (int n = 0; n < 510; n++) x.calibrate(0, 11, 0);
        checks.due("call 512", x.failures(0), 509);
        Calibratory y = Edges.standards(1);
        for (int n = 0; n < 509; n++) y.calibrate(0, 0, 0);
        y.measure(0);
        checks.due("a 510th calibration at call 512", y.calibrate(0, 11, 0), 1);
        Calibratory z = new Calibratory();
        for (int n = 0; n < 511; n++) z.pass(999);
        checks.due("the last day that there can be", z.pass(999), 512 * 999);
    }

    @Says(promise = 0, value = "Calls that ask change nothing.")
    static void askingChangesNothing(Checks checks) {
        Calibratory asked = withAHistory();
        String first = Edges.picture(asked);
        checks.due("asked again", Edges.picture(asked), first);
        Calibratory unasked = withAHistory();
        for (Calibratory x : new Calibratory[] {asked, unasked}) {
            x.pass(2);
            x.calibrate(0, -11, 1);
            x.measure(0);
        }
        checks.due("as if never asked", Edges.picture(asked), Edges.picture(unasked));
    }

    @Says(promise = 0, value = "Today is day 0 at first.")
    static void dayZeroCountsAsADay(Checks checks) {
        Calibratory x = Edges.calibrated(1);
        checks.due("today", x.today(), 0);
        checks.due("due day of what is calibrated at once", x.dueOf(0), 100);
        checks.due("its day on the bench", x.benchDay(0, 1), 0);
    }

    @Says(promise = 0, value = "Instruments are numbered from 0 on; there are at most 12.")
    static void twelveNumbersFromZero(Checks checks) {
        Calibratory x = new Calibratory();
        for (int n = 0; n < 12; n++) checks.due("number " + n, x.tell(NONE, 10, 1, 100), n);
        checks.dueThrow("number 12", Edges.STATE, () -> x.tell(NONE, 10, 1, 100));
    }

    @Says(promise = 0, value = "one without a reference is a standard")
    static void oneWithoutReferenceNeedsNoOther(Checks checks) {
        Calibratory x = Edges.chained(2);
        checks.due("calibrated ahead of all others", x.calibrate(0, 0, 0), 0);
        x.refer(1, NONE);
        x.pass(999);
        checks.due("calibrated, though no other is in force", x.calibrate(1, 0, 0), 0);
        checks.due("trusted by itself", x.distrusted(1), NONE);
    }

    @Says(promise = 0, value = "No instrument is its own reference, directly or over others.")
    static void neverItsOwnReference(Checks checks) {
        Calibratory x = Edges.chained(12);
        for (int n = 0; n < 12; n++) {
            int over = n;
            checks.dueThrow("0 over " + over + " others", Edges.STATE, () -> x.refer(0, over));
        }
        if (!checks.holds()) return; // a ring of references has no end
        for (int n = 0; n < 12; n++) checks.due("chain of " + n, x.chain(n), n + 1);
    }

    @Says(promise = 0, value = "The chain of an instrument is the instrument, its reference, the reference of that, and so on, to a standard.")
    static void theChainEndsAtAStandard(Checks checks) {
        Calibratory x = Edges.chained(12);
        checks.due("over all", x.chain(11), 12);
        x.refer(6, NONE);
        checks.due("down to the new standard", x.chain(11), 6);
        checks.due("the new standard", x.chain(6), 1);
        checks.due("the other half", x.chain(5), 6);
    }

    @Says(promise = 0, value = "A calibration tells an error that was found, and one that was left.")
    static void foundAndLeftAreTwo(Checks checks) {
        Calibratory x = Edges.calibrated(1);
        x.calibrate(0, 11, 3);
        checks.due("found fails", x.failures(0), 1);
        checks.due("left is what is expected", x.expected(0, 0), 3L);
        x.calibrate(0, 3, 11);
        checks.due("what is left fails nothing", x.failures(0), 1);
        checks.due("left above the tolerance", x.driftsOut(0), 0);
    }

    @Says(promise = 0, value = "From then on the instrument is calibrated, its day is today, its due day is its day and its interval, together, and it is not suspect.")
    static void whatACalibrationGives(Checks checks) {
        Calibratory x = Edges.calibrated(2);
        x.calibrate(0, 11, 0);
        checks.due("suspect ahead of it", x.isSuspect(1), true);
        x.pass(7);
        x.calibrate(1, 6, 2);
        checks.due("not suspect", x.isSuspect(1), false);
        checks.due("due day", x.dueOf(1), 107);
        checks.due("calibrated", x.expected(1, 0), 2L);
        x.pass(4);
        x.calibrate(1, 14, 0);
        checks.due("its day was day 7: two points", x.slope(1), (7.0 * 6 + 4.0 * 12) / (49.0 + 16.0));
    }

    @Says(promise = 0, value = "its due day is its day and its interval, together")
    static void theDueDayIsOfTheIntervalAsItIsThen(Checks checks) {
        Calibratory x = Edges.calibrated(1);
        x.pass(10);
        x.calibrate(0, 5, 0);
        checks.due("longer", x.dueOf(0), 10 + 125);
        x.calibrate(0, 11, 0);
        checks.due("shorter", x.dueOf(0), 10 + 62);
    }

    @Says(promise = 0, value = "It was made with the reference that the instrument had at that time.")
    static void theReferenceOfThatTime(Checks checks) {
        Calibratory x = Edges.calibrated(2);
        x.tell(NONE, 10, 1, 100);
        x.calibrate(2, 0, 0);
        x.measure(1);
        x.refer(1, 2);
        checks.due("a failure of its reference of now", x.calibrate(2, 11, 0), 0);
        checks.due("leaves it", x.isSuspect(1), false);
        checks.due("a failure of its reference of then", x.calibrate(0, 11, 0), 1);
        checks.due("makes it suspect", x.isSuspect(1), true);
    }

    @Says(promise = 0, value = "It was made with the reference that the instrument had at that time.")
    static void noReferenceAtThatTime(Checks checks) {
        Calibratory x = Edges.standards(2);
        x.calibrate(0, 0, 0);
        x.calibrate(1, 0, 0);
        x.refer(1, 0);
        x.measure(1);
        checks.due("its reference came later", x.calibrate(0, 11, 0), 0);
        checks.due("so it is not suspect", x.isSuspect(1), false);
    }

    @Says(promise = 0, value = "If the instrument had been calibrated before, more happens ahead of that, in this order:")
    static void theFirstCalibrationDoesNothingMore(Checks checks) {
        Calibratory x = Edges.standards(2);
        x.pass(5);
        x.calibrate(0, 99999, 0);
        x.calibrate(1, 0, 0);
        checks.due("no failure", x.failures(0), 0);
        checks.due("no shorter interval", x.intervalOf(0), 100);
        checks.due("no longer interval", x.intervalOf(1), 100);
        checks.due("no drift point", x.slope(0), 0.0);
        x.calibrate(0, 11, 0);
        checks.due("but the second one", x.failures(0), 1);
    }

    @Says(promise = 0, value = "more happens ahead of that, in this order:")
    static void whatIsLeftNowIsNotWhatHadBeenLeft(Checks checks) {
        Calibratory x = Edges.standards(1);
        x.calibrate(0, 0, 2);
        x.pass(1);
        x.calibrate(0, 5, 4);
        checks.due("found less what had been left before", x.slope(0), 3.0);
    }

    @Says(promise = 0, value = "If what was found, without its sign, is above the tolerance, the instrument has failed.")
    static void atTheToleranceItHasNotFailed(Checks checks) {
        for (int tolerance : new int[] {1, 10, 9999}) {
            Calibratory x = new Calibratory();
            x.tell(NONE, tolerance, 0, 100);
            x.calibrate(0, 0, 0);
            x.calibrate(0, tolerance, 0);
            x.calibrate(0, -tolerance, 0);
            checks.due("at " + tolerance, x.failures(0), 0);
        }
    }

    @Says(promise = 0, value = "If what was found, without its sign, is above the tolerance, the instrument has failed.")
    static void justAboveTheToleranceItHasFailed(Checks checks) {
        for (int tolerance : new int[] {1, 10, 9999}) {
            Calibratory x = new Calibratory();
            x.tell(NONE, tolerance, 0, 100);
            x.calibrate(0, 0, 0);
            x.calibrate(0, tolerance + 1, 0);
            checks.due("above " + tolerance, x.failures(0), 1);
            x.calibrate(0, -tolerance - 1, 0);
            checks.due("below " + -tolerance, x.failures(0), 2);
        }
    }

    @Says(promise = 0, value = "All measurements that were made with it since its last calibration are called back")
    static void measurementsAheadOfItsLastCalibrationStay(Checks checks) {
        Calibratory x = Edges.calibrated(1);
        x.measure(0);
        x.pass(1);
        x.calibrate(0, 0, 0);
        x.pass(1);
        x.measure(0);
        checks.due("one since", x.calibrate(0, 11, 0), 1);
        checks.due("ahead of its last calibration", x.isCalledBack(0), false);
        checks.due("since then", x.isCalledBack(1), true);
    }

    @Says(promise = 0, value = "All measurements that were made with it since its last calibration are called back")
    static void measurementsOfOthersStay(Checks checks) {
        Calibratory x = Edges.standards(2);
        x.calibrate(0, 0, 0);
        x.calibrate(1, 0, 0);
        x.measure(1);
        checks.due("none with it", x.calibrate(0, 11, 0), 0);
        checks.due("one with another", x.isCalledBack(0), false);
    }

    @Says(promise = 0, value = "(what was since is told by the order of the calls, not by days)")
    static void sinceIsToldByTheOrderOfTheCalls(Checks checks) {
        Calibratory x = Edges.calibrated(1);
        x.measure(0);
        x.calibrate(0, 0, 0);
        x.measure(0);
        checks.due("all on one day", x.calibrate(0, 11, 0), 1);
        checks.due("ahead of it", x.isCalledBack(0), false);
        checks.due("behind it", x.isCalledBack(1), true);
        x.measure(0);
        checks.due("behind the failure", x.isCalledBack(2), false);
    }

    @Says(promise = 0, value = "(what was since is told by the order of the calls, not by days)")
    static void sinceOfInstrumentsIsToldByTheOrderToo(Checks checks) {
        Calibratory x = Edges.calibrated(2);
        x.measure(1);
        x.calibrate(0, 0, 0);
        checks.due("nothing since", x.calibrate(0, 11, 0), 0);
        checks.due("calibrated with it ahead of its last, on one day", x.isSuspect(1), false);
        x.calibrate(1, 0, 0);
        x.calibrate(0, 11, 0);
        checks.due("calibrated with it behind its last, on one day", x.isSuspect(1), true);
    }

    @Says(promise = 0, value = "All instruments that were calibrated with it since then, if that was their last calibration, become suspect")
    static void onlyIfThatWasTheirLastCalibration(Checks checks) {
        Calibratory x = Edges.calibrated(2);
        x.measure(1);
        x.refer(1, NONE);
        x.calibrate(1, 0, 0);
        x.measure(1);
        checks.due("their last was without it", x.calibrate(0, 11, 0), 0);
        checks.due("so they are not suspect", x.isSuspect(1), false);
    }

    @Says(promise = 0, value = "the measurements made with them since their last calibration are called back")
    static void theirMeasurementsSinceTheirLastAlone(Checks checks) {
        Calibratory x = Edges.calibrated(2);
        x.measure(1);
        x.calibrate(1, 0, 0);
        x.measure(1);
        checks.due("one since their last", x.calibrate(0, 11, 0), 1);
        checks.due("the one ahead of it", x.isCalledBack(0), false);
        checks.due("the one behind it", x.isCalledBack(1), true);
    }

    @Says(promise = 0, value = "the instruments calibrated with them since then become suspect, and so on.")
    static void andSoOnToTheEndOfTheChain(Checks checks) {
        Calibratory x = Edges.calibrated(12);
        for (int n = 0; n < 12; n++) x.measure(n);
        checks.due("all twelve", x.calibrate(0, 11, 0), 12);
        checks.due("but for itself", x.isSuspect(0), false);
        for (int n = 1; n < 12; n++) checks.due("suspect " + n, x.isSuspect(n), true);
    }

    @Says(promise = 0, value = "the instruments calibrated with them since then become suspect, and so on.")
    static void notOverOneThatWasCalibratedInBetween(Checks checks) {
        Calibratory x = Edges.calibrated(3);
        x.measure(2);
        x.calibrate(1, 0, 0);
        checks.due("2 was calibrated with 1 ahead of 1's last", x.calibrate(0, 11, 0), 0);
        checks.due("1", x.isSuspect(1), true);
        checks.due("2", x.isSuspect(2), false);
    }

    @Says(promise = 0, value = "the instruments calibrated with them since then become suspect, and so on.")
    static void overOneThatIsSuspectAlready(Checks checks) {
        Calibratory x = Edges.turned();
        checks.due("1 fails: over 2, which is suspect, back to 0", x.calibrate(1, 11, 0), 1);
        checks.due("0 was calibrated with 2", x.isSuspect(0), true);
        checks.due("1 is calibrated", x.isSuspect(1), false);
    }

    @Says(promise = 0, value = "The interval becomes longer by a quarter of it, but not longer than 999, if twice what was found, without its sign, is not above the tolerance")
    static void aQuarterLongerUpToHalfTheTolerance(Checks checks) {
        int[][] rows = { // tolerance, found, the interval of 100 then
            {10, 0, 125}, {10, 5, 125}, {10, -5, 125}, {10, 6, 100}, {10, -6, 100}, {9, 4, 125}, {9, 5, 100},
            {1, 0, 125}, {1, 1, 100}, {2, 1, 125}, {9999, -4999, 125}, {9999, -5000, 100}, {9999, 9999, 100},
        };
        for (int[] row : rows) {
            checks.due("tolerance " + row[0] + ", found " + row[1], intervalThen(row[0], 100, row[1]), row[2]);
        }
    }

    private static int intervalThen(int tolerance, int interval, int found) {
        Calibratory x = new Calibratory();
        x.tell(NONE, tolerance, 0, interval);
        x.calibrate(0, 0, 0);
        x.calibrate(0, found, 0);
        return x.intervalOf(0);
    }

    @Says(promise = 0, value = "but not longer than 999")
    static void neverLongerThan999(Checks checks) {
        checks.due("998 of 799", intervalThen(10, 799, 0), 998);
        checks.due("999 of 800, with a quarter 1000", intervalThen(10, 800, 0), 999);
        checks.due("999 of 998", intervalThen(10, 998, 0), 999);
        checks.due("999 of 999", intervalThen(10, 999, 0), 999);
    }

    @Says(promise = 0, value = "it becomes a half of it, but not less than 1, if the instrument has failed.")
    static void neverLessThan1(Checks checks) {
        checks.due("1 of 3", intervalThen(10, 3, 11), 1);
        checks.due("1 of 2", intervalThen(10, 2, 11), 1);
        checks.due("1 of 1, with a half 0", intervalThen(10, 1, 11), 1);
        checks.due("2 of 5", intervalThen(10, 5, -11), 2);
        checks.due("499 of 999", intervalThen(10, 999, 11), 499);
    }

    @Says(promise = 0, value = "If days have passed since its day, it has a drift point more")
    static void noPointOnTheSameDay(Checks checks) {
        Calibratory x = Edges.standards(1);
        x.pass(5);
        x.calibrate(0, 0, 0);
        x.calibrate(0, 9, 0);
        checks.due("the same day", x.slope(0), 0.0);
        x.pass(1);
        x.calibrate(0, 9, 0);
        checks.due("one day", x.slope(0), 9.0);
        x.calibrate(0, -9, 0);
        checks.due("the same day again", x.slope(0), 9.0);
    }

    @Says(promise = 0, value = "those days, and what was found less what had been left.")
    static void thePointIsAChange(Checks checks) {
        Calibratory x = Edges.standards(1);
        x.calibrate(0, 0, -99999);
        x.pass(1);
        x.calibrate(0, 99999, 99999);
        checks.due("the largest up", x.slope(0), 199998.0);
        Calibratory y = Edges.standards(1);
        y.calibrate(0, 0, 99999);
        y.pass(1);
        y.calibrate(0, -99999, 0);
        checks.due("the largest down", y.slope(0), -199998.0);
    }

    @Says(promise = 0, value = "Of each instrument the last 8 points are kept.")
    static void theNinthPointSendsTheFirstAway(Checks checks) {
        Calibratory x = Edges.standards(2);
        x.calibrate(0, 0, 0);
        x.calibrate(1, 0, 0);
        for (int n = 1; n <= 8; n++) {
            x.pass(1);
            x.calibrate(0, n == 1 ? 80 : 0, 0);
            x.calibrate(1, n == 8 ? 80 : 0, 0);
        }
        checks.due("the first of eight counts still", x.slope(0), 10.0);
        x.calibrate(0, 5, 0);
        checks.due("a calibration without point sends none away", x.slope(0), 10.0);
        x.pass(1);
        x.calibrate(0, 0, 0);
        checks.due("the first of nine does not", x.slope(0), 0.0);
        checks.due("of the other one nothing went", x.slope(1), 10.0);
        for (int n = 0; n < 7; n++) {
            x.pass(1);
            x.calibrate(1, 0, 0);
        }
        checks.due("its eighth is the last of eight now", x.slope(1), 80.0 / (6 + 1 + 4));
    }

    @Says(promise = 0, value = "An instrument is in force if it is calibrated, today is not behind its due day, and it is not suspect.")
    static void inForceOnItsDueDayAndNotBehind(Checks checks) {
        Calibratory x = Edges.calibrated(1);
        x.pass(99);
        checks.due("a day ahead", x.distrusted(0), NONE);
        x.pass(1);
        checks.due("on the due day", x.distrusted(0), NONE);
        x.pass(1);
        checks.due("a day behind", x.distrusted(0), 0);
    }

    @Says(promise = 0, value = "An instrument is in force if it is calibrated, today is not behind its due day, and it is not suspect.")
    static void notInForceWhileNotCalibrated(Checks checks) {
        Calibratory x = Edges.standards(1);
        checks.due("not calibrated", x.distrusted(0), 0);
        x.calibrate(0, 0, 0);
        checks.due("calibrated", x.distrusted(0), NONE);
    }

    @Says(promise = 0, value = "An instrument is in force if it is calibrated, today is not behind its due day, and it is not suspect.")
    static void notInForceWhileSuspect(Checks checks) {
        Calibratory x = Edges.calibrated(2);
        x.calibrate(0, 11, 0);
        checks.due("suspect", x.distrusted(1), 1);
        x.calibrate(1, 0, 0);
        checks.due("no longer", x.distrusted(1), NONE);
    }

    @Says(promise = 0, value = "It is trusted if all instruments of its chain are in force.")
    static void trustedOverTheWholeChain(Checks checks) {
        for (int late = 0; late < 12; late++) {
            Calibratory x = new Calibratory();
            for (int n = 0; n < 12; n++) x.tell(n - 1, 10, 1, n == late ? 1 : 9);
            for (int n = 0; n < 12; n++) x.calibrate(n, 0, 0);
            checks.due("all in force", x.distrusted(11), NONE);
            x.pass(2);
            checks.due("but " + late, x.distrusted(11), late);
        }
    }

    @Says(promise = 0, value = "The slope of an instrument is the sum of the products of both numbers of its drift points, divided by the sum of the squares of the days; 0 without points.")
    static void slopeOfOneAndOfTwoPoints(Checks checks) {
        Calibratory x = Edges.calibrated(1);
        checks.due("without points", x.slope(0), 0.0);
        x.pass(2);
        x.calibrate(0, 3, 0);
        checks.due("of one", x.slope(0), 6.0 / 4.0);
        x.pass(5);
        x.calibrate(0, -4, 0);
        checks.due("of two", x.slope(0), (6.0 - 20.0) / (4.0 + 25.0));
    }

    @Says(promise = 0, value = "rounded down as a whole (exactly: the slope is not rounded ahead of that).")
    static void expectedIsRoundedOnce(Checks checks) {
        checks.due("a third of 9999 up", Edges.drifted(10, 3, 1, 7).expected(0, 9999), 3340L);
        checks.due("a third of 9999 down", Edges.drifted(10, 3, -1, 7).expected(0, 9999), -3326L);
        checks.due("two thirds of 1 down, from 0", Edges.drifted(10, 3, -2, 0).expected(0, 1), -1L);
        checks.due("a third of 1 down, from 1", Edges.drifted(10, 3, -1, 1).expected(0, 1), 0L);
        checks.due("a third of 2 up, from -1", Edges.drifted(10, 3, 1, -1).expected(0, 2), -1L);
        checks.due("a 49th of 49", Edges.drifted(10, 49, 1, 0).expected(0, 49), 1L);
        checks.due("a 49th of 49 down", Edges.drifted(10, 49, -1, 0).expected(0, 49), -1L);
    }

    @Says(promise = 0, value = "The uncertainty of an instrument with its chain is its own if it is a standard")
    static void theUncertaintyOfAStandardIsItsOwn(Checks checks) {
        for (int own : new int[] {0, 1, 2, 3, 500, 998, 999}) {
            Calibratory x = new Calibratory();
            x.tell(NONE, 10, own, 10);
            checks.due("own " + own, x.uncertainty(0), own);
        }
    }

    @Says(promise = 0, value = "otherwise the least whole number whose square is not below the square of its own and the square of that of its reference with its chain, together.")
    static void theLeastRootIsNotBelow(Checks checks) {
        int[][] rows = { // the reference's, its own, with its chain
            {0, 0, 0}, {0, 1, 1}, {1, 0, 1}, {1, 1, 2}, {3, 4, 5}, {3, 5, 6}, {4, 4, 6}, {0, 999, 999}, {999, 0, 999},
            {999, 1, 1000}, {999, 44, 1000}, {999, 45, 1001}, {999, 999, 1413}, {20, 21, 29}, {119, 120, 169},
            {119, 121, 170}, {696, 697, 985}, {696, 698, 986},
        };
        for (int[] row : rows) {
            Calibratory x = new Calibratory();
            x.tell(NONE, 10, row[0], 10);
            x.tell(0, 10, row[1], 10);
            checks.due(row[0] + " and " + row[1], x.uncertainty(1), row[2]);
        }
    }

    @Says(promise = 0, value = "Its limit is its tolerance less that, but at least 0.")
    static void theLimitIsNeverBelow0(Checks checks) {
        int[][] rows = {{5, 4, 1}, {5, 5, 0}, {5, 6, 0}, {1, 999, 0}, {9999, 0, 9999}};
        for (int[] row : rows) {
            Calibratory x = new Calibratory();
            x.tell(NONE, row[0], row[1], 10);
            checks.due("tolerance " + row[0] + ", uncertainty " + row[1], x.limit(0), row[2]);
        }
    }

    @Says(promise = 0, value = "All divisions are rounded down.")
    static void divisionsAreRoundedDown(Checks checks) {
        checks.due("a quarter of 3", intervalThen(10, 3, 0), 3);
        checks.due("a quarter of 7", intervalThen(10, 7, 0), 8);
        checks.due("a quarter of 8", intervalThen(10, 8, 0), 10);
        checks.due("a half of 7", intervalThen(10, 7, 11), 3);
        checks.due("below 0 too", Edges.drifted(10, 2, -1, 0).expected(0, 1), -1L);
    }

    @Says(promise = 0, value = "A call that throws an exception changes nothing.")
    static void whatThrowsChangesNothing(Checks checks) {
        Calibratory refused = withAHistory();
        Calibratory spared = withAHistory();
        checks.dueThrow("tell", Edges.ARGUMENT, () -> refused.tell(NONE, 1, 1, 0));
        checks.dueThrow("refer", Edges.STATE, () -> refused.refer(0, 2));
        checks.dueThrow("pass", Edges.ARGUMENT, () -> refused.pass(1000));
        checks.dueThrow("calibrate", Edges.ARGUMENT, () -> refused.calibrate(0, 11, 100000));
        checks.dueThrow("measure", Edges.BOUNDS, () -> refused.measure(3));
        checks.due("all that is asked", Edges.picture(refused), Edges.picture(spared));
        for (Calibratory x : new Calibratory[] {refused, spared}) {
            x.tell(1, 10, 1, 10);
            x.measure(0);
            x.pass(1);
            x.calibrate(0, 11, 0);
        }
        checks.due("and what comes of it", Edges.picture(refused), Edges.picture(spared));
    }

    @Says(promise = 0, value = "If several apply, the one that the throws clause names first is thrown.")
    static void theFirstNamedIsThrown(Checks checks) {
        Calibratory x = Edges.chained(12);
        checks.dueThrow("tell: all three", Edges.BOUNDS, () -> x.tell(12, 0, -1, 0));
        checks.dueThrow("tell: the last two", Edges.ARGUMENT, () -> x.tell(11, 0, 0, 1));
        checks.dueThrow("refer: both", Edges.BOUNDS, () -> x.refer(12, 12));
        checks.dueThrow("calibrate: the first two", Edges.BOUNDS, () -> x.calibrate(12, 100000, 0));
        checks.dueThrow("calibrate: the last two", Edges.ARGUMENT, () -> x.calibrate(1, 0, 100000));
        checks.dueThrow("expected: the first two", Edges.BOUNDS, () -> x.expected(12, 10000));
        checks.dueThrow("expected: the last two", Edges.ARGUMENT, () -> x.expected(0, 10000));
        checks.dueThrow("benchDay: both", Edges.BOUNDS, () -> x.benchDay(12, 13));
    }

    @Says(promise = 0, value = "The constants: `NONE = -1`: There is none.")
    static void none(Checks checks) {
        checks.due("NONE", Calibratory.NONE, -1);
        Calibratory x = Edges.standards(1);
        checks.due("a standard had none", x.refer(0, -1), Calibratory.NONE);
        checks.due("no due day", x.dueOf(0), -1);
    }

    public static void main(String[] args) throws IllegalAccessException {
        Edges.run(TermsEdgesTest.class);
    }
}
