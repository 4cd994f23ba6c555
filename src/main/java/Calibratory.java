/**
 * A keeper of measuring instruments, of their calibrations, and of what was measured with them.
 *
 * Every calibration remembers the calibration of the reference that it was made with, and every
 * measurement the calibration of the instrument that made it. What a failure calls back is then
 * what rests on the failed calibration over calibrations that nothing has replaced since.
 */
public final class Calibratory {
    public static final int NONE = -1;

    private static final int MOST_INSTRUMENTS = 12;
    private static final int MOST_MEASUREMENTS = 200;
    private static final int MOST_POINTS = 8;
    private static final int MOST_TOLERANCE = 9999;
    private static final int MOST_UNCERTAINTY = 999;
    private static final int MOST_INTERVAL = 999;
    private static final int MOST_PASSING = 999;
    private static final int MOST_ERROR = 99999;
    private static final int MOST_AHEAD = 9999;
    // An object is promised for 512 calls, and a call makes one calibration at most.
    private static final int MOST_CALIBRATIONS = 512;
    // Behind every moment that there can be.
    private static final int NOT_REPLACED = 1000000;

    private static final class Instrument {
        final int number;
        final int tolerance;
        final int ownUncertainty;
        int interval;
        Instrument reference;
        Calibration last;
        int failed;
        long sumOfProducts;
        long sumOfSquares;

        Instrument(int number, int tolerance, int ownUncertainty, int interval) {
            this.number = number;
            this.tolerance = tolerance;
            this.ownUncertainty = ownUncertainty;
            this.interval = interval;
        }
    }

    private static final class Calibration {
        final int moment;
        final int day;
        final int left;
        final Calibration before;
        final Calibration basis;
        boolean failed;
        boolean suspect;
        int replacedAt;
        int pointDays;
        int pointDrift;

        /** before: the one that it replaces; basis: the reference's one that it is made with. */
        Calibration(int moment, int day, int left, Calibration before, Calibration basis) {
            this.moment = moment;
            this.day = day;
            this.left = left;
            this.before = before;
            this.basis = basis;
            this.replacedAt = NOT_REPLACED;
        }
    }

    private static final class Measurement {
        final int moment;
        final Calibration basis;
        boolean recalled;

        Measurement(int moment, Calibration basis) {
            this.moment = moment;
            this.basis = basis;
        }
    }

    private final Instrument[] told = new Instrument[MOST_INSTRUMENTS];
    private final Measurement[] made = new Measurement[MOST_MEASUREMENTS];
    private final Calibration[] log = new Calibration[MOST_CALIBRATIONS];
    private int toldCount;
    private int madeCount;
    private int logCount;
    private int recalledCount;
    private int currentDay;
    // Counts calibrations and measurements: days do not tell which of two came first.
    private int moment;

    public Calibratory() {
    }

    // ---- instruments and days

    public int tell(int reference, int tolerance, int uncertainty, int interval)
            throws IndexOutOfBoundsException, IllegalArgumentException, IllegalStateException {
        Instrument wanted = knownOrNone(reference);
        if (tolerance < 1 || tolerance > MOST_TOLERANCE
                || uncertainty < 0 || uncertainty > MOST_UNCERTAINTY
                || interval < 1 || interval > MOST_INTERVAL) {
            throw new IllegalArgumentException("tolerance, uncertainty or interval out of range");
        }
        int number = toldCount;
        if (number < 0 || number >= told.length) {
            throw new IllegalStateException("no more instruments");
        }
        Instrument it = new Instrument(number, tolerance, uncertainty, interval);
        it.reference = wanted;
        told[number] = it;
        toldCount = number + 1;
        return number;
    }

    public int refer(int instrument, int reference)
            throws IndexOutOfBoundsException, IllegalStateException {
        Instrument it = known(instrument);
        Instrument wanted = knownOrNone(reference);
        if (isInChain(it, wanted)) {
            throw new IllegalStateException("an instrument would be its own reference");
        }
        int had = numberOf(it.reference);
        it.reference = wanted;
        return had;
    }

    public int pass(int days) throws IllegalArgumentException {
        if (days < 1 || days > MOST_PASSING) {
            throw new IllegalArgumentException("days out of range");
        }
        currentDay += days;
        return currentDay;
    }

    public int today() {
        return currentDay;
    }

    public int instruments() {
        return toldCount;
    }

    private Instrument known(int number) {
        if (number < 0 || number >= told.length) {
            throw new IndexOutOfBoundsException("no such instrument");
        }
        Instrument it = told[number];
        if (it == null) {
            throw new IndexOutOfBoundsException("no such instrument");
        }
        return it;
    }

    private Instrument knownOrNone(int number) {
        return number == NONE ? null : known(number);
    }

    private static int numberOf(Instrument it) {
        return it == null ? NONE : it.number;
    }

    private static boolean isInChain(Instrument it, Instrument first) {
        for (Instrument at = first; at != null; at = at.reference) {
            if (at == it) {
                return true;
            }
        }
        return false;
    }

    // ---- calibrations and measurements

    public int calibrate(int instrument, int found, int left)
            throws IndexOutOfBoundsException, IllegalArgumentException, IllegalStateException {
        Instrument it = known(instrument);
        if (isNoError(found) || isNoError(left)) {
            throw new IllegalArgumentException("found or left out of range");
        }
        if (firstOutOfForce(it.reference) != null) {
            throw new IllegalStateException("its reference is not trusted");
        }
        int place = logCount;
        if (place < 0 || place >= log.length) {
            // No promised call comes here, and what is kept must not grow without end.
            return 0;
        }
        Calibration basis = it.reference == null ? null : it.reference.last;
        Calibration fresh = new Calibration(moment, currentDay, left, it.last, basis);
        int recalledNow = it.last == null ? 0 : settle(it, it.last, fresh, found);
        it.last = fresh;
        sumPoints(it);
        log[place] = fresh;
        logCount = place + 1;
        moment++;
        return recalledNow;
    }

    public int measure(int instrument) throws IndexOutOfBoundsException, IllegalStateException {
        Instrument it = known(instrument);
        int number = madeCount;
        if (firstOutOfForce(it) != null || number < 0 || number >= made.length) {
            throw new IllegalStateException("it is not trusted, or no more measurements");
        }
        made[number] = new Measurement(moment, it.last);
        madeCount = number + 1;
        moment++;
        return number;
    }

    private static boolean isNoError(int error) {
        return error < -MOST_ERROR || error > MOST_ERROR;
    }

    /** What a calibration that follows another one does ahead of its own effect. */
    private int settle(Instrument it, Calibration old, Calibration fresh, int found) {
        int size = Math.abs(found);
        int recalledNow = 0;
        if (size > it.tolerance) {
            fresh.failed = true;
            it.failed++;
            recalledNow = callBack(old);
        }
        it.interval = nextInterval(it, size);
        if (fresh.day > old.day) {
            fresh.pointDays = fresh.day - old.day;
            fresh.pointDrift = found - old.left;
        }
        old.replacedAt = fresh.moment;
        return recalledNow;
    }

    private static int nextInterval(Instrument it, int size) {
        if (size > it.tolerance) {
            return Math.max(1, it.interval / 2);
        }
        if (2 * size <= it.tolerance) {
            return Math.min(MOST_INTERVAL, it.interval + it.interval / 4);
        }
        return it.interval;
    }

    private static void sumPoints(Instrument it) {
        it.sumOfProducts = 0;
        it.sumOfSquares = 0;
        int points = 0;
        for (Calibration at = it.last; at != null && points < MOST_POINTS; at = at.before) {
            if (at.pointDays > 0) {
                points++;
                it.sumOfProducts += (long) at.pointDays * at.pointDrift;
                it.sumOfSquares += (long) at.pointDays * at.pointDays;
            }
        }
    }

    // ---- what is asked: dues and trust

    public int intervalOf(int instrument) throws IndexOutOfBoundsException {
        return known(instrument).interval;
    }

    public int dueOf(int instrument) throws IndexOutOfBoundsException {
        Instrument it = known(instrument);
        return it.last == null ? NONE : dueDay(it, it.last);
    }

    public boolean isSuspect(int instrument) throws IndexOutOfBoundsException {
        Instrument it = known(instrument);
        return it.last != null && it.last.suspect;
    }

    public int distrusted(int instrument) throws IndexOutOfBoundsException {
        return numberOf(firstOutOfForce(known(instrument)));
    }

    public int chain(int instrument) throws IndexOutOfBoundsException {
        int length = 0;
        for (Instrument at = known(instrument); at != null; at = at.reference) {
            length++;
        }
        return length;
    }

    public int failures(int instrument) throws IndexOutOfBoundsException {
        return known(instrument).failed;
    }

    // The interval changes in calibrations alone, so it still is the one that the day came with.
    private static int dueDay(Instrument it, Calibration last) {
        return last.day + it.interval;
    }

    private boolean isInForce(Instrument it) {
        return it.last != null && currentDay <= dueDay(it, it.last) && !it.last.suspect;
    }

    private Instrument firstOutOfForce(Instrument first) {
        for (Instrument at = first; at != null; at = at.reference) {
            if (!isInForce(at)) {
                return at;
            }
        }
        return null;
    }

    // ---- drift, uncertainty and limits

    public double slope(int instrument) throws IndexOutOfBoundsException {
        Instrument it = known(instrument);
        if (it.sumOfSquares <= 0) {
            return 0.0;
        }
        return (double) it.sumOfProducts / (double) it.sumOfSquares;
    }

    public long expected(int instrument, int days)
            throws IndexOutOfBoundsException, IllegalArgumentException, IllegalStateException {
        Instrument it = known(instrument);
        if (days < 0 || days > MOST_AHEAD) {
            throw new IllegalArgumentException("days out of range");
        }
        if (it.last == null) {
            throw new IllegalStateException("it is not calibrated");
        }
        return errorAfter(it, it.last, days);
    }

    public int driftsOut(int instrument) throws IndexOutOfBoundsException {
        Instrument it = known(instrument);
        Calibration last = it.last;
        if (last == null) {
            return NONE;
        }
        if (isOutAfter(it, last, 0)) {
            return 0;
        }
        // The error only rises or only falls with the days: once out, it stays out.
        int within = 0;
        for (int step = 8192; step > 0; step /= 2) {
            if (within + step <= MOST_AHEAD && !isOutAfter(it, last, within + step)) {
                within += step;
            }
        }
        return within == MOST_AHEAD ? NONE : within + 1;
    }

    public int uncertainty(int instrument) throws IndexOutOfBoundsException {
        return uncertaintyWithChain(known(instrument), 0);
    }

    public int limit(int instrument) throws IndexOutOfBoundsException {
        Instrument it = known(instrument);
        return Math.max(0, it.tolerance - uncertaintyWithChain(it, 0));
    }

    private static long errorAfter(Instrument it, Calibration last, int days) {
        if (it.sumOfSquares <= 0) {
            return last.left;
        }
        // What was left is whole, so rounding the other part down rounds both together down.
        return last.left + Math.floorDiv(it.sumOfProducts * days, it.sumOfSquares);
    }

    private static boolean isOutAfter(Instrument it, Calibration last, int days) {
        return Math.abs(errorAfter(it, last, days)) > it.tolerance;
    }

    // Nothing above a standard counts 0, which leaves a standard its own uncertainty.
    private static int uncertaintyWithChain(Instrument it, int depth) {
        if (it == null || depth >= MOST_INSTRUMENTS) {
            return 0;
        }
        int above = uncertaintyWithChain(it.reference, depth + 1);
        return leastRoot(it.ownUncertainty * it.ownUncertainty + above * above);
    }

    /** The least whole number whose square is not below the given one; good up to 16384 squared. */
    private static int leastRoot(int square) {
        if (square <= 0) {
            return 0;
        }
        int below = 0;
        for (int step = 8192; step > 0; step /= 2) {
            if ((below + step) * (below + step) < square) {
                below += step;
            }
        }
        return below + 1;
    }

    // ---- recalls

    public int measurements() {
        return madeCount;
    }

    public boolean isCalledBack(int measurement) throws IndexOutOfBoundsException {
        if (measurement < 0 || measurement >= made.length) {
            throw new IndexOutOfBoundsException("no such measurement");
        }
        Measurement it = made[measurement];
        if (it == null) {
            throw new IndexOutOfBoundsException("no such measurement");
        }
        return it.recalled;
    }

    public int calledBack() {
        return recalledCount;
    }

    public int calledBackByLog() {
        int count = 0;
        for (int i = 0; i < madeCount && i < made.length; i++) {
            if (made[i] != null && logRecalls(made[i])) {
                count++;
            }
        }
        return count;
    }

    public int atStake(int instrument) throws IndexOutOfBoundsException {
        Instrument it = known(instrument);
        return it.last == null ? 0 : countAtStake(it.last);
    }

    /** Whether something with this basis rested at a moment on another calibration. */
    private static boolean restsOn(Calibration basis, Calibration other, int moment) {
        for (Calibration at = basis; at != null; at = at.basis) {
            if (at == other) {
                return true;
            }
            if (at.replacedAt < moment) {
                return false;
            }
        }
        return false;
    }

    private boolean isAtStake(Measurement it, Calibration failing) {
        return it != null && !it.recalled && restsOn(it.basis, failing, moment);
    }

    private int countAtStake(Calibration failing) {
        int count = 0;
        for (int i = 0; i < madeCount && i < made.length; i++) {
            if (isAtStake(made[i], failing)) {
                count++;
            }
        }
        return count;
    }

    private int callBack(Calibration failing) {
        int count = 0;
        for (int i = 0; i < madeCount && i < made.length; i++) {
            Measurement it = made[i];
            if (it != null && isAtStake(it, failing)) {
                it.recalled = true;
                count++;
            }
        }
        recalledCount += count;
        for (Instrument it : told) {
            if (it != null && it.last != null && restsOn(it.last.basis, failing, moment)) {
                it.last.suspect = true;
            }
        }
        return count;
    }

    /** Asks the log alone, so that it does not just repeat what was noted down on the way. */
    private boolean logRecalls(Measurement it) {
        for (int i = 0; i < logCount && i < log.length; i++) {
            Calibration at = log[i];
            if (at != null && at.failed && at.moment > it.moment
                    && restsOn(it.basis, at.before, at.moment)) {
                return true;
            }
        }
        return false;
    }

    // ---- the bench

    public int benchDay(int instrument, int each)
            throws IndexOutOfBoundsException, IllegalArgumentException {
        Instrument it = known(instrument);
        if (each < 1 || each > MOST_INSTRUMENTS) {
            throw new IllegalArgumentException("each out of range");
        }
        return it.last == null ? NONE : currentDay + countAhead(it, it.last) / each;
    }

    public int late(int each) throws IllegalArgumentException {
        if (each < 1 || each > MOST_INSTRUMENTS) {
            throw new IllegalArgumentException("each out of range");
        }
        int count = 0;
        for (Instrument it : told) {
            if (it != null && it.last != null
                    && currentDay + countAhead(it, it.last) / each > dueDay(it, it.last)) {
                count++;
            }
        }
        return count;
    }

    private int countAhead(Instrument it, Calibration last) {
        int due = dueDay(it, last);
        int count = 0;
        for (Instrument other : told) {
            if (other != null && other.last != null) {
                int otherDue = dueDay(other, other.last);
                if (otherDue < due || otherDue == due && other.number < it.number) {
                    count++;
                }
            }
        }
        return count;
    }
}
