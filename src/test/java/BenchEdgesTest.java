/** The edges of promises 25 and 26, each on its own: benchDay and late. */
public final class BenchEdgesTest {
    private static final int NONE = Calibratory.NONE;
    private static final int LEAST = Edges.LEAST;
    private static final int MOST = Edges.MOST;

    /** Standards with these intervals, all calibrated on day 0. */
    private static Calibratory dueOn(int... days) {
        Calibratory x = new Calibratory();
        for (int n = 0; n < days.length; n++) {
            x.tell(NONE, 10, 1, days[n]);
            x.calibrate(n, 0, 0);
        }
        return x;
    }

    // ---- promise 25: benchDay

    @Says(promise = 25, value = "if from today on a number of instruments could be on each day")
    static void fromTodayOn(Checks checks) {
        Calibratory x = dueOn(5, 6);
        checks.due("day 0", x.benchDay(0, 1), 0);
        checks.due("the day behind it", x.benchDay(1, 1), 1);
        x.pass(999);
        checks.due("today", x.benchDay(0, 1), 999);
        checks.due("tomorrow", x.benchDay(1, 1), 1000);
    }

    @Says(promise = 25, value = "if from today on a number of instruments could be on each day")
    static void eachDayIsFilledUp(Checks checks) {
        Calibratory x = dueOn(1, 2, 3, 4, 5, 6, 7, 8, 9, 10, 11, 12);
        for (int each = 1; each <= 12; each++) {
            for (int n = 0; n < 12; n++) checks.due(n + " by " + each, x.benchDay(n, each), n / each);
        }
    }

    @Says(promise = 25, value = "those that are calibrated by rising due days")
    static void byRisingDueDays(Checks checks) {
        Calibratory x = dueOn(9, 7, 8, 6);
        int[] due = {3, 1, 2, 0};
        for (int n = 0; n < 4; n++) checks.due("place of " + n, x.benchDay(n, 1), due[n]);
    }

    @Says(promise = 25, value = "those that are calibrated by rising due days")
    static void dueDaysLongGoneComeFirst(Checks checks) {
        Calibratory x = dueOn(9, 7);
        x.pass(500);
        x.tell(NONE, 10, 1, 1);
        x.calibrate(2, 0, 0);
        checks.due("due on day 501", x.benchDay(2, 1), 502);
        checks.due("due on day 7", x.benchDay(1, 1), 500);
    }

    @Says(promise = 25, value = "those with the same due day by rising numbers")
    static void theSameDueDayByRisingNumbers(Checks checks) {
        Calibratory x = Edges.calibrated(12);
        for (int n = 0; n < 12; n++) checks.due("place of " + n, x.benchDay(n, 1), n);
        x.pass(75);
        x.calibrate(0, 99, 0);
        checks.due("calibrated anew: 75 and 50 days", x.dueOf(0), 125);
        checks.due("behind all others", x.benchDay(0, 1), 75 + 11);
        checks.due("the next one comes up", x.benchDay(1, 1), 75);
        Calibratory y = dueOn(20, 30);
        y.pass(20);
        y.calibrate(0, 11, 0);
        checks.due("the same due day by another day and interval", y.dueOf(0), 30);
        checks.due("the lesser number first", y.benchDay(0, 1), 20);
        checks.due("the greater one behind it", y.benchDay(1, 1), 21);
    }

    @Says(promise = 25, value = "and no other ones.")
    static void thoseNotCalibratedTakeNoPlace(Checks checks) {
        Calibratory x = Edges.standards(3);
        x.calibrate(2, 0, 0);
        checks.due("alone on the bench", x.benchDay(2, 1), 0);
        checks.due("not on it", x.benchDay(0, 1), NONE);
        x.calibrate(1, 0, 0);
        checks.due("one more", x.benchDay(2, 1), 1);
    }

    @Says(promise = 25, value = "those that are calibrated by rising due days")
    static void suspectOnesTakeTheirPlace(Checks checks) {
        Calibratory x = Edges.calibrated(3);
        x.calibrate(0, 11, 0);
        checks.due("suspect", x.benchDay(1, 1), 1);
        checks.due("suspect too", x.benchDay(2, 1), 2);
        checks.due("failed: due on day 50", x.benchDay(0, 1), 0);
    }

    @Says(promise = 25, value = "`instrument`: its number")
    static void benchDayOfEachNumber(Checks checks) {
        Calibratory x = dueOn(12, 11, 10, 9, 8, 7, 6, 5, 4, 3, 2, 1);
        for (int n = 0; n < 12; n++) checks.due("of " + n, x.benchDay(n, 1), 11 - n);
    }

    @Says(promise = 25, value = "`each`: 1 to 12: how many on each day")
    static void eachAtItsEnds(Checks checks) {
        Calibratory x = Edges.calibrated(12);
        checks.due("1", x.benchDay(11, 1), 11);
        checks.due("11: the last one waits", x.benchDay(11, 11), 1);
        checks.due("11: the last but one does not", x.benchDay(10, 11), 0);
        checks.due("12", x.benchDay(11, 12), 0);
    }

    @Says(promise = 25, value = "Returns the day; NONE if it is not calibrated.")
    static void noBenchDayWhileNotCalibrated(Checks checks) {
        Calibratory x = Edges.standards(2);
        x.calibrate(1, 0, 0);
        x.pass(3);
        for (int each : new int[] {1, 12}) checks.due("not calibrated, " + each, x.benchDay(0, each), NONE);
        x.calibrate(0, 0, 0);
        checks.due("calibrated", x.benchDay(0, 1), 4);
    }

    @Says(promise = 25, value = "Throws `IndexOutOfBoundsException` if there is no such instrument")
    static void noSuchBenchDay(Checks checks) {
        Edges.dueNoSuch(checks, (x, n) -> x.benchDay(n, 1));
    }

    @Says(promise = 25, value = "Throws `IllegalArgumentException` if each is out of range")
    static void eachTooSmall(Checks checks) {
        for (int wrong : new int[] {0, -1, LEAST}) {
            Edges.dueRefused(checks, "each " + wrong, Edges.ARGUMENT, () -> Edges.calibrated(1), x -> x.benchDay(0, wrong));
            checks.dueThrow("not calibrated", Edges.ARGUMENT, () -> Edges.standards(1).benchDay(0, wrong));
        }
    }

    @Says(promise = 25, value = "Throws `IllegalArgumentException` if each is out of range")
    static void eachTooLarge(Checks checks) {
        for (int wrong : new int[] {13, MOST}) {
            Edges.dueRefused(checks, "each " + wrong, Edges.ARGUMENT, () -> Edges.calibrated(1), x -> x.benchDay(0, wrong));
            checks.dueThrow("not calibrated", Edges.ARGUMENT, () -> Edges.standards(1).benchDay(0, wrong));
        }
    }

    @Says(promise = 25, value = "throws IndexOutOfBoundsException, IllegalArgumentException")
    static void benchDayThrowsTheFirstNamed(Checks checks) {
        Calibratory x = Edges.standards(1);
        for (int each : new int[] {0, 13}) {
            checks.dueThrow("no instrument, each", Edges.BOUNDS, () -> x.benchDay(1, each));
            checks.dueThrow("none, each", Edges.BOUNDS, () -> x.benchDay(NONE, each));
        }
    }

    // ---- promise 26: late

    @Says(promise = 26, value = "Counts the instruments whose day on the bench would be behind their due day.")
    static void onTheDueDayNobodyIsLate(Checks checks) {
        Calibratory x = dueOn(5);
        x.pass(5);
        checks.due("on the due day", x.late(1), 0);
        x.pass(1);
        checks.due("behind it", x.late(1), 1);
    }

    @Says(promise = 26, value = "Counts the instruments whose day on the bench would be behind their due day.")
    static void lateByWaiting(Checks checks) {
        Calibratory x = dueOn(1, 1, 1, 2);
        checks.due("days 0, 1, 2 and 3, due on 1, 1, 1 and 2", x.late(1), 2);
        checks.due("days 0, 0, 1 and 1", x.late(2), 0);
        x.pass(1);
        checks.due("days 1, 1, 2 and 2", x.late(2), 1);
        checks.due("days 1, 1, 1 and 2", x.late(3), 0);
    }

    @Says(promise = 26, value = "Counts the instruments whose day on the bench would be behind their due day.")
    static void onesNotCalibratedAreNeverLate(Checks checks) {
        Calibratory x = Edges.standards(12);
        x.pass(999);
        checks.due("none calibrated", x.late(1), 0);
        x.calibrate(11, 0, 0);
        checks.due("one calibrated today", x.late(1), 0);
        x.pass(101);
        checks.due("it alone", x.late(1), 1);
    }

    @Says(promise = 26, value = "Counts the instruments whose day on the bench would be behind their due day.")
    static void suspectOnesCanBeLate(Checks checks) {
        Calibratory x = Edges.calibrated(2);
        x.calibrate(0, 11, 0);
        x.pass(100);
        checks.due("0 is late, 1 is not, by two", x.late(2), 1);
        checks.due("both by one", x.late(1), 2);
    }

    @Says(promise = 26, value = "`each`: 1 to 12: how many on each day")
    static void lateEachAtItsEnds(Checks checks) {
        Calibratory x = dueOn(1, 1, 1, 1, 1, 1, 1, 1, 1, 1, 1, 1);
        checks.due("1: two are in time", x.late(1), 10);
        x.pass(1);
        checks.due("11: one is late", x.late(11), 1);
        checks.due("12: none is", x.late(12), 0);
    }

    @Says(promise = 26, value = "Returns how many.")
    static void lateFromNoneToAll(Checks checks) {
        checks.due("of none", new Calibratory().late(1), 0);
        Calibratory x = Edges.calibrated(12);
        checks.due("none of twelve", x.late(1), 0);
        x.pass(101);
        checks.due("twelve of twelve", x.late(12), 12);
    }

    @Says(promise = 26, value = "Throws `IllegalArgumentException` if each is out of range")
    static void lateEachTooSmall(Checks checks) {
        for (int wrong : new int[] {0, -1, LEAST}) {
            Edges.dueRefused(checks, "late " + wrong, Edges.ARGUMENT, () -> Edges.calibrated(2), x -> x.late(wrong));
            checks.dueThrow("of none", Edges.ARGUMENT, () -> new Calibratory().late(wrong));
        }
    }

    @Says(promise = 26, value = "Throws `IllegalArgumentException` if each is out of range")
    static void lateEachTooLarge(Checks checks) {
        for (int wrong : new int[] {13, MOST}) {
            Edges.dueRefused(checks, "late " + wrong, Edges.ARGUMENT, () -> Edges.calibrated(2), x -> x.late(wrong));
            checks.dueThrow("of none", Edges.ARGUMENT, () -> new Calibratory().late(wrong));
        }
    }

    public static void main(String[] args) throws IllegalAccessException {
        Edges.run(BenchEdgesTest.class);
    }
}
