/** Promises 15 to 19: slope, expected, driftsOut, uncertainty, limit. */
public final class DriftTest {
    private static final Checks CHECKS = new Checks("DriftTest");
    private static final Class<IndexOutOfBoundsException> BOUNDS = IndexOutOfBoundsException.class;
    private static final Class<IllegalArgumentException> ARGUMENT = IllegalArgumentException.class;
    private static final Class<IllegalStateException> STATE = IllegalStateException.class;

    /** A standard that was calibrated, then again behind some days. */
    private static Calibratory drifted(int tolerance, int left, int days, int found, int leftThen) {
        Calibratory x = new Calibratory();
        x.tell(-1, tolerance, 0, 999);
        x.calibrate(0, 0, left);
        x.pass(days);
        x.calibrate(0, found, leftThen);
        return x;
    }

    private static void wrongInputs() {
        Calibratory x = new Calibratory();
        x.tell(-1, 10, 1, 10);
        for (int wrong : new int[] {-2, -1, 1, 12, Integer.MIN_VALUE, Integer.MAX_VALUE}) {
            CHECKS.dueThrow("slope(" + wrong + ")", BOUNDS, () -> x.slope(wrong));
            CHECKS.dueThrow("expected(" + wrong + ", -1)", BOUNDS, () -> x.expected(wrong, -1));
            CHECKS.dueThrow("driftsOut(" + wrong + ")", BOUNDS, () -> x.driftsOut(wrong));
            CHECKS.dueThrow("uncertainty(" + wrong + ")", BOUNDS, () -> x.uncertainty(wrong));
            CHECKS.dueThrow("limit(" + wrong + ")", BOUNDS, () -> x.limit(wrong));
        }
        for (int wrong : new int[] {-1, 10000, Integer.MIN_VALUE, Integer.MAX_VALUE}) {
            CHECKS.dueThrow("expected(0, " + wrong + ")", ARGUMENT, () -> x.expected(0, wrong));
        }
        CHECKS.dueThrow("expected, not calibrated", STATE, () -> x.expected(0, 0));
        CHECKS.due("driftsOut, not calibrated", x.driftsOut(0), Calibratory.NONE);
        CHECKS.due("slope, not calibrated", x.slope(0), 0.0);
    }

    private static void withoutPoints() {
        Calibratory x = drifted(10, 3, 1, 0, 0);
        x.tell(-1, 10, 0, 10);
        x.calibrate(1, 55, -4);
        CHECKS.due("slope", x.slope(1), 0.0);
        CHECKS.due("expected(0)", x.expected(1, 0), -4L);
        CHECKS.due("expected(9999)", x.expected(1, 9999), -4L);
        CHECKS.due("driftsOut", x.driftsOut(1), Calibratory.NONE);
        x.calibrate(1, 9, 11);
        CHECKS.due("no days passed: no point", x.slope(1), 0.0);
        CHECKS.due("but another one left", x.expected(1, 7), 11L);
        CHECKS.due("out at once", x.driftsOut(1), 0);
        x.calibrate(1, 0, -11);
        CHECKS.due("out at once below", x.driftsOut(1), 0);
        x.calibrate(1, 0, -10);
        CHECKS.due("at the tolerance it is not out", x.driftsOut(1), Calibratory.NONE);
    }

    private static void roundedDown() {
        Calibratory up = drifted(10, 0, 3, 1, 0);
        CHECKS.due("slope of a third", up.slope(0), 3.0 / 9.0);
        CHECKS.due("a third of 2", up.expected(0, 2), 0L);
        CHECKS.due("a third of 3, exactly", up.expected(0, 3), 1L);
        CHECKS.due("a third of 9999, exactly", up.expected(0, 9999), 3333L);
        CHECKS.due("above 10 first at 33", up.driftsOut(0), 33);
        Calibratory down = drifted(10, 0, 3, -1, 0);
        CHECKS.due("slope below 0", down.slope(0), -3.0 / 9.0);
        CHECKS.due("a third of -1, down", down.expected(0, 1), -1L);
        CHECKS.due("a third of -3, exactly", down.expected(0, 3), -1L);
        CHECKS.due("a third of -4, down", down.expected(0, 4), -2L);
        CHECKS.due("below -10 first at 31", down.driftsOut(0), 31);
        Calibratory left = drifted(10, 2, 3, 3, -2);
        CHECKS.due("found less what had been left", left.slope(0), 3.0 / 9.0);
        CHECKS.due("with what is left now", left.expected(0, 1), -2L);
        CHECKS.due("together", left.expected(0, 6), 0L);
    }

    private static void lastDay() {
        // A hundredth a day: above tolerance t first on day 100 t + 100.
        CHECKS.due("on day 9900", drifted(98, 0, 100, 1, 0).driftsOut(0), 9900);
        CHECKS.due("downwards it is rounded away from the tolerance", drifted(98, 0, 100, -1, 0).driftsOut(0), 9801);
        CHECKS.due("no longer within 9999", drifted(99, 0, 100, 1, 0).driftsOut(0), Calibratory.NONE);
        // 99 days and a whole 101 of them are 9999.
        CHECKS.due("on day 9999", drifted(100, 0, 99, 1, 0).driftsOut(0), 9999);
        CHECKS.due("on day 9999 it would be the first", drifted(101, 0, 99, 1, 0).driftsOut(0), Calibratory.NONE);
        CHECKS.due("on day 1", drifted(10, 0, 1, 11, 0).driftsOut(0), 1);
        CHECKS.due("on day 1 below", drifted(10, 0, 1, -11, 0).driftsOut(0), 1);
        CHECKS.due("from one side over to the other", drifted(10, 0, 1, 3, -10).driftsOut(0), 7);
        CHECKS.due("out at first, though it comes back", drifted(10, 0, 1, 3, -11).driftsOut(0), 0);
    }

    private static void eightPoints() {
        Calibratory x = new Calibratory();
        x.tell(-1, 9999, 0, 999);
        x.calibrate(0, 0, 0);
        long products = 0;
        long squares = 0;
        for (int n = 1; n <= 8; n++) {
            x.pass(n);
            x.calibrate(0, n * n, 0);
            products += (long) n * n * n;
            squares += (long) n * n;
            CHECKS.due("slope of " + n + " points", x.slope(0), (double) products / (double) squares);
        }
        x.calibrate(0, 5000, 0);
        CHECKS.due("on the same day no point goes", x.slope(0), (double) products / (double) squares);
        x.pass(2);
        x.calibrate(0, 7, 0);
        CHECKS.due("the ninth sends the first away", x.slope(0), (double) (products - 1 + 14) / (double) (squares - 1 + 4));
        CHECKS.due("expected with them", x.expected(0, 1000), (products + 13) * 1000 / (squares + 3));
    }

    private static void largest() {
        Calibratory x = new Calibratory();
        x.tell(-1, 9999, 0, 999);
        x.calibrate(0, 0, -99999);
        for (int n = 0; n < 490; n++) x.pass(999);
        x.calibrate(0, 99999, 99999);
        long days = 490L * 999;
        CHECKS.due("slope", x.slope(0), (double) (days * 199998) / (double) (days * days));
        CHECKS.due("expected", x.expected(0, 9999), 99999 + days * 199998 * 9999 / (days * days));
        CHECKS.due("driftsOut", x.driftsOut(0), 0);
        CHECKS.due("dueOf", x.dueOf(0), (int) days + 499);
        Calibratory y = drifted(9999, -99999, 1, 99999, -9999);
        CHECKS.due("a steep one", y.expected(0, 9999), -9999L + 199998L * 9999);
        CHECKS.due("a steep one down", drifted(9999, 99999, 1, -99999, 0).expected(0, 9999), -199998L * 9999);
        CHECKS.due("is out at once", y.driftsOut(0), 1);
    }

    private static void uncertainties() {
        Calibratory x = new Calibratory();
        x.tell(-1, 100, 3, 10);
        x.tell(0, 100, 4, 10);
        x.tell(1, 10, 12, 10);
        x.tell(0, 10, 0, 10);
        x.tell(0, 5, 1, 10);
        x.tell(-1, 5, 0, 10);
        x.tell(5, 5, 0, 10);
        CHECKS.due("a standard's own", x.uncertainty(0), 3);
        CHECKS.due("3 and 4", x.uncertainty(1), 5);
        CHECKS.due("5 and 12", x.uncertainty(2), 13);
        CHECKS.due("3 and 0", x.uncertainty(3), 3);
        CHECKS.due("3 and 1, rounded up", x.uncertainty(4), 4);
        CHECKS.due("0", x.uncertainty(5), 0);
        CHECKS.due("0 and 0", x.uncertainty(6), 0);
        CHECKS.due("limit", x.limit(0), 97);
        CHECKS.due("limit over a chain", x.limit(1), 95);
        CHECKS.due("limit at least 0", x.limit(2), 0);
        CHECKS.due("limit 1", x.limit(4), 1);
        CHECKS.due("limit is all of it", x.limit(6), 5);
        x.refer(2, -1);
        CHECKS.due("as a standard", x.uncertainty(2), 12);
        x.refer(0, 2);
        CHECKS.due("3 and 12, rounded up", x.uncertainty(0), 13);
        CHECKS.due("rounded up at each step", x.uncertainty(1), 14);
    }

    private static void longestUncertainty() {
        Calibratory x = new Calibratory();
        for (int n = 0; n < 12; n++) x.tell(n - 1, 9999, 999, 10);
        int want = 999;
        for (int n = 1; n < 12; n++) {
            int square = 999 * 999 + want * want;
            want = 0;
            while (want * want < square) want++;
            CHECKS.due("999 over a chain of " + (n + 1), x.uncertainty(n), want);
            CHECKS.due("its limit", x.limit(n), 9999 - want);
        }
    }

    public static void main(String[] args) {
        wrongInputs();
        withoutPoints();
        roundedDown();
        lastDay();
        eightPoints();
        largest();
        uncertainties();
        longestUncertainty();
        CHECKS.end();
    }
}
