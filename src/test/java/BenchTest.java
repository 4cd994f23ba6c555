/** Promises 25 and 26: benchDay and late. */
public final class BenchTest {
    private static final Checks CHECKS = new Checks("BenchTest");
    private static final Class<IndexOutOfBoundsException> BOUNDS = IndexOutOfBoundsException.class;
    private static final Class<IllegalArgumentException> ARGUMENT = IllegalArgumentException.class;

    private static void wrongInputs() {
        Calibratory x = new Calibratory();
        x.tell(-1, 10, 1, 10);
        for (int wrong : new int[] {0, -1, 13, Integer.MIN_VALUE, Integer.MAX_VALUE}) {
            CHECKS.dueThrow("benchDay(0, " + wrong + ")", ARGUMENT, () -> x.benchDay(0, wrong));
            CHECKS.dueThrow("late(" + wrong + ")", ARGUMENT, () -> x.late(wrong));
            CHECKS.dueThrow("no instrument goes ahead of that", BOUNDS, () -> x.benchDay(1, wrong));
        }
        CHECKS.dueThrow("benchDay(-1, 1)", BOUNDS, () -> x.benchDay(-1, 1));
        CHECKS.due("not calibrated", x.benchDay(0, 12), Calibratory.NONE);
        CHECKS.due("late without a calibrated one", x.late(1), 0);
    }

    private static void byDueDays() {
        Calibratory x = new Calibratory();
        int[] intervals = {8, 3, 5, 3, 9, 1};
        for (int interval : intervals) x.tell(-1, 10, 1, interval);
        for (int n = 0; n < 5; n++) x.calibrate(n, 0, 0);
        int[] places = {3, 0, 2, 1, 4};
        for (int each = 1; each <= 12; each++) {
            for (int n = 0; n < 5; n++) {
                CHECKS.due("benchDay(" + n + ", " + each + ")", x.benchDay(n, each), places[n] / each);
            }
            CHECKS.due("the one not calibrated", x.benchDay(5, each), Calibratory.NONE);
        }
        x.pass(3);
        CHECKS.due("from today on", x.benchDay(1, 1), 3);
        CHECKS.due("one a day", x.benchDay(4, 1), 7);
        CHECKS.due("late: only 3", x.late(1), 1);
        CHECKS.due("on the due day nobody is late", x.late(2), 0);
        x.pass(1);
        CHECKS.due("late with one a day", x.late(1), 3);
        CHECKS.due("late with three a day", x.late(3), 2);
        x.calibrate(1, 6, 0);
        CHECKS.due("calibrated, it goes behind", x.benchDay(1, 1), 4 + 2);
        CHECKS.due("and the others come up", x.benchDay(3, 1), 4);
    }

    private static void suspectOnesToo() {
        Calibratory x = new Calibratory();
        x.tell(-1, 10, 1, 20);
        x.tell(0, 10, 1, 5);
        x.calibrate(0, 0, 0);
        x.calibrate(1, 0, 0);
        x.calibrate(0, 11, 0);
        CHECKS.due("a suspect one is calibrated, and on the bench", x.benchDay(1, 1), 0);
        CHECKS.due("the other one behind it", x.benchDay(0, 1), 1);
        x.pass(6);
        CHECKS.due("a suspect one can be late", x.late(1), 1);
    }

    private static void twelve() {
        Calibratory x = new Calibratory();
        for (int n = 0; n < 12; n++) {
            x.tell(-1, 10, 1, 4);
            x.calibrate(n, 0, 0);
        }
        CHECKS.due("twelve on one day", x.benchDay(11, 12), 0);
        CHECKS.due("eleven on one day", x.benchDay(11, 11), 1);
        CHECKS.due("one a day", x.benchDay(11, 1), 11);
        CHECKS.due("late one a day", x.late(1), 7);
        CHECKS.due("late two a day", x.late(2), 2);
        CHECKS.due("late three a day", x.late(3), 0);
        x.pass(5);
        CHECKS.due("all late", x.late(12), 12);
    }

    public static void main(String[] args) {
        wrongInputs();
        byDueDays();
        suspectOnesToo();
        twelve();
        CHECKS.end();
    }
}
