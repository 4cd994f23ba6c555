/** The edges of promises 1 to 6, each on its own: a new object, tell, refer, pass, today, instruments. */
public final class InstrumentsEdgesTest {
    private static final int NONE = Calibratory.NONE;
    private static final int LEAST = Edges.LEAST;
    private static final int MOST = Edges.MOST;

    // ---- promise 1: a new object

    @Says(promise = 1, value = "No instruments")
    static void newWithoutInstruments(Checks checks) {
        Calibratory x = new Calibratory();
        checks.due("instruments", x.instruments(), 0);
        checks.dueThrow("asked for number 0", Edges.BOUNDS, () -> x.chain(0));
        checks.dueThrow("as a reference", Edges.BOUNDS, () -> x.tell(0, 1, 1, 1));
        checks.due("none is late", x.late(12), 0);
    }

    @Says(promise = 1, value = "today is day 0.")
    static void newOnDayZero(Checks checks) {
        checks.due("today", new Calibratory().today(), 0);
        checks.due("a day passed", new Calibratory().pass(1), 1);
    }

    @Says(promise = 1, value = "`Calibratory()`: No instruments; today is day 0.")
    static void newWithoutMeasurements(Checks checks) {
        Calibratory x = new Calibratory();
        checks.due("measurements", x.measurements(), 0);
        checks.due("calledBack", x.calledBack(), 0);
        checks.due("calledBackByLog", x.calledBackByLog(), 0);
        checks.dueThrow("isCalledBack(0)", Edges.BOUNDS, () -> x.isCalledBack(0));
    }

    @Says(promise = 1, value = "`Calibratory()`: No instruments; today is day 0.")
    static void newBesideAFullOne(Checks checks) {
        Calibratory full = Edges.calibrated(12);
        full.pass(9);
        full.measure(11);
        Calibratory x = new Calibratory();
        checks.due("instruments", x.instruments(), 0);
        checks.due("today", x.today(), 0);
        checks.due("measurements", x.measurements(), 0);
        checks.due("its first number", x.tell(NONE, 1, 1, 1), 0);
        checks.due("the full one stays", full.instruments(), 12);
    }

    // ---- promise 2: tell

    @Says(promise = 2, value = "Tells an instrument, which is not calibrated.")
    static void toldNotCalibrated(Checks checks) {
        Calibratory x = Edges.standards(1);
        checks.due("dueOf", x.dueOf(0), NONE);
        checks.due("distrusted", x.distrusted(0), 0);
        checks.due("isSuspect", x.isSuspect(0), false);
        checks.due("failures", x.failures(0), 0);
        checks.due("slope", x.slope(0), 0.0);
        checks.due("driftsOut", x.driftsOut(0), NONE);
        checks.due("atStake", x.atStake(0), 0);
        checks.due("benchDay", x.benchDay(0, 1), NONE);
        checks.dueThrow("expected", Edges.STATE, () -> x.expected(0, 0));
        checks.dueThrow("measure", Edges.STATE, () -> x.measure(0));
    }

    @Says(promise = 2, value = "`reference`: the number of its reference; NONE for a standard")
    static void toldAsAStandard(Checks checks) {
        Calibratory x = new Calibratory();
        checks.due("with NONE", x.tell(NONE, 10, 1, 10), 0);
        checks.due("its chain", x.chain(0), 1);
        checks.due("it had no reference", x.refer(0, NONE), NONE);
    }

    @Says(promise = 2, value = "`reference`: the number of its reference; NONE for a standard")
    static void toldWithTheFirstAndWithTheLatest(Checks checks) {
        Calibratory x = Edges.standards(11);
        checks.due("with number 0", x.refer(x.tell(0, 10, 1, 10), NONE), 0);
        for (int n = 1; n < 12; n++) {
            Calibratory y = Edges.standards(n);
            checks.due("with the latest of " + n, y.refer(y.tell(n - 1, 10, 1, 10), NONE), n - 1);
        }
    }

    @Says(promise = 2, value = "`tolerance`: 1 to 9999")
    static void toleranceAtItsEnds(Checks checks) {
        Calibratory x = new Calibratory();
        x.tell(NONE, 1, 0, 10);
        x.tell(NONE, 9999, 0, 10);
        checks.due("1", x.limit(0), 1);
        checks.due("9999", x.limit(1), 9999);
    }

    @Says(promise = 2, value = "`uncertainty`: 0 to 999")
    static void uncertaintyAtItsEnds(Checks checks) {
        Calibratory x = new Calibratory();
        x.tell(NONE, 10, 0, 10);
        x.tell(NONE, 10, 999, 10);
        checks.due("0", x.uncertainty(0), 0);
        checks.due("999", x.uncertainty(1), 999);
    }

    @Says(promise = 2, value = "`interval`: 1 to 999")
    static void intervalAtItsEnds(Checks checks) {
        Calibratory x = new Calibratory();
        x.tell(NONE, 10, 0, 1);
        x.tell(NONE, 10, 0, 999);
        checks.due("1", x.intervalOf(0), 1);
        checks.due("999", x.intervalOf(1), 999);
    }

    @Says(promise = 2, value = "Returns its number.")
    static void numbersRiseByOne(Checks checks) {
        Calibratory x = new Calibratory();
        for (int n = 0; n < 12; n++) {
            checks.due("number " + n, x.tell(NONE, 10, 1, 100 + n), n);
            checks.due("which is it", x.intervalOf(n), 100 + n);
        }
    }

    @Says(promise = 2, value = "Returns its number.")
    static void aRefusedTellTakesNoNumber(Checks checks) {
        Calibratory x = Edges.standards(3);
        checks.dueThrow("refused", Edges.ARGUMENT, () -> x.tell(NONE, 0, 1, 1));
        checks.due("the next number", x.tell(NONE, 1, 1, 1), 3);
    }

    @Says(promise = 2, value = "Throws `IndexOutOfBoundsException` if there is no such reference")
    static void noSuchReferenceToTellWith(Checks checks) {
        for (int count : new int[] {0, 1, 11}) {
            for (int wrong : new int[] {LEAST, -2, count, count + 1, 12, MOST}) {
                Edges.dueRefused(checks, wrong + " of " + count, Edges.BOUNDS, () -> Edges.standards(count),
                        x -> x.tell(wrong, 10, 1, 10));
            }
        }
    }

    @Says(promise = 2, value = "Throws `IndexOutOfBoundsException` if there is no such reference")
    static void itselfIsNoReferenceYet(Checks checks) {
        Calibratory x = Edges.standards(4);
        Edges.dueRefused(checks, "its own number", Edges.BOUNDS, x, () -> x.tell(4, 10, 1, 10));
    }

    private static void dueOutOfRange(Checks checks, int tolerance, int uncertainty, int interval) {
        for (int reference : new int[] {NONE, 0}) {
            Edges.dueRefused(checks, tolerance + ", " + uncertainty + ", " + interval, Edges.ARGUMENT,
                    () -> Edges.standards(1), x -> x.tell(reference, tolerance, uncertainty, interval));
        }
    }

    @Says(promise = 2, value = "Throws `IllegalArgumentException` if another number is out of range")
    static void toleranceTooSmall(Checks checks) {
        for (int wrong : new int[] {0, -1, LEAST}) dueOutOfRange(checks, wrong, 1, 1);
    }

    @Says(promise = 2, value = "Throws `IllegalArgumentException` if another number is out of range")
    static void toleranceTooLarge(Checks checks) {
        for (int wrong : new int[] {10000, MOST}) dueOutOfRange(checks, wrong, 1, 1);
    }

    @Says(promise = 2, value = "Throws `IllegalArgumentException` if another number is out of range")
    static void uncertaintyTooSmall(Checks checks) {
        for (int wrong : new int[] {-1, LEAST}) dueOutOfRange(checks, 1, wrong, 1);
    }

    @Says(promise = 2, value = "Throws `IllegalArgumentException` if another number is out of range")
    static void uncertaintyTooLarge(Checks checks) {
        for (int wrong : new int[] {1000, MOST}) dueOutOfRange(checks, 1, wrong, 1);
    }

    @Says(promise = 2, value = "Throws `IllegalArgumentException` if another number is out of range")
    static void intervalTooSmall(Checks checks) {
        for (int wrong : new int[] {0, -1, LEAST}) dueOutOfRange(checks, 1, 1, wrong);
    }

    @Says(promise = 2, value = "Throws `IllegalArgumentException` if another number is out of range")
    static void intervalTooLarge(Checks checks) {
        for (int wrong : new int[] {1000, MOST}) dueOutOfRange(checks, 1, 1, wrong);
    }

    @Says(promise = 2, value = "Throws `IllegalStateException` if there are 12 instruments")
    static void noThirteenth(Checks checks) {
        checks.due("the twelfth", Edges.standards(11).tell(10, 10, 1, 10), 11);
        Edges.dueRefused(checks, "a thirteenth standard", Edges.STATE, () -> Edges.standards(12),
                x -> x.tell(NONE, 10, 1, 10));
        Edges.dueRefused(checks, "a thirteenth with a reference", Edges.STATE, () -> Edges.calibrated(12),
                x -> x.tell(11, 10, 1, 10));
    }

    @Says(promise = 2, value = "throws IndexOutOfBoundsException, IllegalArgumentException, IllegalStateException")
    static void tellThrowsTheFirstNamed(Checks checks) {
        Calibratory some = Edges.standards(1);
        checks.dueThrow("no reference, out of range", Edges.BOUNDS, () -> some.tell(1, 0, 1, 1));
        Calibratory full = Edges.standards(12);
        checks.dueThrow("all three", Edges.BOUNDS, () -> full.tell(-2, 1, 1, 1000));
        checks.dueThrow("no reference, full", Edges.BOUNDS, () -> full.tell(12, 1, 1, 1));
        checks.dueThrow("tolerance, full", Edges.ARGUMENT, () -> full.tell(0, 10000, 1, 1));
        checks.dueThrow("uncertainty, full", Edges.ARGUMENT, () -> full.tell(0, 1, 1000, 1));
        checks.dueThrow("interval, full", Edges.ARGUMENT, () -> full.tell(NONE, 1, 1, 0));
    }

    // ---- promise 3: refer

    @Says(promise = 3, value = "Gives an instrument another reference, or none.")
    static void givesAnotherOrNone(Checks checks) {
        Calibratory x = Edges.chained(3);
        x.refer(2, 0);
        checks.due("another", x.chain(2), 2);
        x.refer(2, NONE);
        checks.due("none", x.chain(2), 1);
        checks.due("the others stay", x.chain(1), 2);
    }

    @Says(promise = 3, value = "Gives an instrument another reference, or none.")
    static void leavesTheCalibrationAsItIs(Checks checks) {
        Calibratory x = Edges.calibrated(2);
        x.refer(1, NONE);
        checks.due("due day", x.dueOf(1), 100);
        checks.due("trust", x.distrusted(1), NONE);
        checks.due("interval", x.intervalOf(1), 100);
    }

    @Says(promise = 3, value = "`instrument`: its number")
    static void refersTheFirstAndTheLast(Checks checks) {
        Calibratory x = Edges.standards(12);
        checks.due("the last to the first", x.refer(11, 0), NONE);
        checks.due("it alone", x.chain(11) * 10 + x.chain(0), 21);
        x.refer(11, NONE);
        checks.due("the first to the last", x.refer(0, 11), NONE);
        checks.due("the first alone", x.chain(0) * 10 + x.chain(11), 21);
    }

    @Says(promise = 3, value = "`reference`: the number of its reference; NONE for a standard")
    static void refersToAnyNumberOrNone(Checks checks) {
        Calibratory x = Edges.standards(12);
        for (int reference = 1; reference < 12; reference++) {
            checks.due("to " + reference, x.refer(0, reference), reference == 1 ? NONE : reference - 1);
            checks.due("its chain", x.chain(0), 2);
        }
        checks.due("to none", x.refer(0, NONE), 11);
        checks.due("its chain then", x.chain(0), 1);
    }

    @Says(promise = 3, value = "Returns the reference that it had; NONE if it was a standard.")
    static void returnsWhatItHad(Checks checks) {
        Calibratory x = Edges.standards(12);
        checks.due("was a standard", x.refer(1, 0), NONE);
        checks.due("had 0", x.refer(1, 11), 0);
        checks.due("had 11", x.refer(1, 11), 11);
        checks.due("the same again", x.refer(1, NONE), 11);
        checks.due("was a standard again", x.refer(1, NONE), NONE);
    }

    @Says(promise = 3, value = "Throws `IndexOutOfBoundsException` if there is no such instrument or reference")
    static void noSuchInstrumentToRefer(Checks checks) {
        for (int count : new int[] {0, 1, 5, 12}) {
            for (int wrong : new int[] {LEAST, -2, NONE, count, 12, MOST}) {
                Edges.dueRefused(checks, wrong + " of " + count, Edges.BOUNDS, () -> Edges.standards(count),
                        x -> x.refer(wrong, NONE));
            }
        }
    }

    @Says(promise = 3, value = "Throws `IndexOutOfBoundsException` if there is no such instrument or reference")
    static void noSuchReferenceToRefer(Checks checks) {
        for (int count : new int[] {1, 5, 12}) {
            for (int wrong : new int[] {LEAST, -2, count, 12, MOST}) {
                Edges.dueRefused(checks, wrong + " of " + count, Edges.BOUNDS, () -> Edges.chained(count),
                        x -> x.refer(count - 1, wrong));
            }
        }
    }

    @Says(promise = 3, value = "Throws `IllegalStateException` if an instrument would be its own reference by that, directly")
    static void ownReferenceDirectly(Checks checks) {
        for (int own : new int[] {0, 1, 2}) {
            Edges.dueRefused(checks, own + " to " + own, Edges.STATE, () -> Edges.chained(3), x -> x.refer(own, own));
        }
    }

    @Says(promise = 3, value = "Throws `IllegalStateException` if an instrument would be its own reference by that, directly or over others")
    static void ownReferenceOverOne(Checks checks) {
        Calibratory x = Edges.chained(2);
        Edges.dueRefused(checks, "over one", Edges.STATE, x, () -> x.refer(0, 1));
    }

    @Says(promise = 3, value = "Throws `IllegalStateException` if an instrument would be its own reference by that, directly or over others")
    static void ownReferenceOverAll(Checks checks) {
        Calibratory x = Edges.chained(12);
        Edges.dueRefused(checks, "over eleven", Edges.STATE, x, () -> x.refer(0, 11));
        checks.due("but down the chain it may", x.refer(11, 0), 10);
    }

    @Says(promise = 3, value = "Throws `IllegalStateException` if an instrument would be its own reference by that, directly or over others")
    static void aNeighbourIsNoOwnReference(Checks checks) {
        Calibratory x = Edges.standards(1);
        x.tell(0, 10, 1, 10);
        x.tell(0, 10, 1, 10);
        checks.due("beside it over the same standard", x.refer(1, 2), 0);
        checks.due("over both", x.chain(1), 3);
        checks.dueThrow("not the other way as well", Edges.STATE, () -> x.refer(2, 1));
        if (!checks.holds()) return; // a ring of references has no end
        x.refer(1, 0);
        checks.due("once it is away", x.refer(2, 1), 0);
    }

    @Says(promise = 3, value = "throws IndexOutOfBoundsException, IllegalStateException")
    static void referThrowsTheFirstNamed(Checks checks) {
        Calibratory x = Edges.standards(2);
        checks.dueThrow("its own reference, were it there", Edges.BOUNDS, () -> x.refer(2, 2));
        checks.dueThrow("far off", Edges.BOUNDS, () -> x.refer(MOST, MOST));
        checks.dueThrow("none of itself", Edges.BOUNDS, () -> x.refer(NONE, NONE));
    }

    // ---- promises 4 to 6: pass, today, instruments

    @Says(promise = 4, value = "Lets days pass.")
    static void daysAddUp(Checks checks) {
        Calibratory x = new Calibratory();
        x.pass(998);
        x.pass(1);
        x.pass(999);
        checks.due("today", x.today(), 1998);
    }

    @Says(promise = 4, value = "`days`: 1 to 999")
    static void daysAtTheirEnds(Checks checks) {
        checks.due("1", new Calibratory().pass(1), 1);
        checks.due("999", new Calibratory().pass(999), 999);
    }

    @Says(promise = 4, value = "Returns today then.")
    static void returnsTodayAndNotTheDays(Checks checks) {
        Calibratory x = new Calibratory();
        for (int n = 1; n <= 512; n++) checks.due("pass " + n, x.pass(999), 999 * n);
    }

    @Says(promise = 4, value = "Throws `IllegalArgumentException` if days is out of range")
    static void daysTooFew(Checks checks) {
        for (int wrong : new int[] {0, -1, -999, LEAST}) {
            Edges.dueRefused(checks, "pass " + wrong, Edges.ARGUMENT, () -> Edges.calibrated(1), x -> x.pass(wrong));
        }
    }

    @Says(promise = 4, value = "Throws `IllegalArgumentException` if days is out of range")
    static void daysTooMany(Checks checks) {
        for (int wrong : new int[] {1000, 1001, MOST}) {
            Edges.dueRefused(checks, "pass " + wrong, Edges.ARGUMENT, () -> Edges.calibrated(1), x -> x.pass(wrong));
        }
    }

    @Says(promise = 5, value = "Returns today.")
    static void todayIsMovedByPassAlone(Checks checks) {
        Calibratory x = new Calibratory();
        checks.due("at first", x.today(), 0);
        x.tell(NONE, 10, 1, 10);
        x.calibrate(0, 0, 0);
        x.measure(0);
        checks.due("behind other calls", x.today(), 0);
        x.pass(1);
        checks.due("a day on", x.today(), 1);
        checks.dueThrow("refused", Edges.ARGUMENT, () -> x.pass(0));
        checks.due("behind a refused pass", x.today(), 1);
    }

    @Says(promise = 6, value = "Returns how many instruments there are.")
    static void fromNoneToTwelve(Checks checks) {
        Calibratory x = new Calibratory();
        for (int n = 0; n < 12; n++) {
            checks.due("there are " + n, x.instruments(), n);
            x.tell(n - 1, 10, 1, 10);
        }
        checks.due("full", x.instruments(), 12);
        checks.dueThrow("refused", Edges.STATE, () -> x.tell(NONE, 10, 1, 10));
        checks.due("behind a refused tell", x.instruments(), 12);
    }

    public static void main(String[] args) throws IllegalAccessException {
        Edges.run(InstrumentsEdgesTest.class);
    }
}
