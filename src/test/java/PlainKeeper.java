import java.math.BigInteger;
import java.util.ArrayList;
import java.util.List;
import java.util.TreeSet;

/** The document told once more, step by step in its own words and without any shortcut: what random runs are compared with. */
public final class PlainKeeper {
    private static final class Tool {
        int tolerance, own, interval, reference, day, left, madeWith, order, failures;
        boolean calibrated, suspect;
        List<int[]> points = new ArrayList<>();
    }

    private final List<Tool> tools = new ArrayList<>();
    private final List<int[]> measured = new ArrayList<>(); // the instrument, the order
    private final TreeSet<Integer> called = new TreeSet<>();
    private int today, order;

    private Tool tool(int number) {
        if (number < 0 || number >= tools.size()) throw new IndexOutOfBoundsException();
        return tools.get(number);
    }

    private void reference(int number) {
        if (number != -1) tool(number);
    }

    private static void range(int number, int least, int most) {
        if (number < least || number > most) throw new IllegalArgumentException();
    }

    private List<Integer> chainOf(int number) {
        tool(number);
        List<Integer> all = new ArrayList<>();
        for (int at = number; at != -1; at = tool(at).reference) all.add(at);
        return all;
    }

    private boolean inForce(int number) {
        Tool t = tool(number);
        return t.calibrated && today <= t.day + t.interval && !t.suspect;
    }

    public int tell(int reference, int tolerance, int uncertainty, int interval) {
        reference(reference);
        range(tolerance, 1, 9999);
        range(uncertainty, 0, 999);
        range(interval, 1, 999);
        if (tools.size() == 12) throw new IllegalStateException();
        Tool t = new Tool();
        t.reference = reference;
        t.tolerance = tolerance;
        t.own = uncertainty;
        t.interval = interval;
        tools.add(t);
        return tools.size() - 1;
    }

    public int refer(int instrument, int reference) {
        Tool t = tool(instrument);
        reference(reference);
        if (reference != -1 && chainOf(reference).contains(instrument)) throw new IllegalStateException();
        int had = t.reference;
        t.reference = reference;
        return had;
    }

    public int pass(int days) {
        range(days, 1, 999);
        return today += days;
    }

    public int today() {
        return today;
    }

    public int instruments() {
        return tools.size();
    }

    /** Gathers all measurements that a failure of an instrument calls back, and all instruments that it makes suspect. */
    private void gather(int instrument, TreeSet<Integer> measurements, TreeSet<Integer> suspects) {
        int since = tool(instrument).order;
        for (int m = 0; m < measured.size(); m++) {
            if (measured.get(m)[0] == instrument && measured.get(m)[1] > since) measurements.add(m);
        }
        for (int n = 0; n < tools.size(); n++) {
            Tool t = tools.get(n);
            if (t.calibrated && t.madeWith == instrument && t.order > since) {
                suspects.add(n);
                gather(n, measurements, suspects);
            }
        }
    }

    public int calibrate(int instrument, int found, int left) {
        Tool t = tool(instrument);
        range(found, -99999, 99999);
        range(left, -99999, 99999);
        if (t.reference != -1 && distrusted(t.reference) != -1) throw new IllegalStateException();
        int had = called.size();
        if (t.calibrated) {
            int size = found < 0 ? -found : found;
            boolean failed = size > t.tolerance;
            if (failed) {
                t.failures++;
                TreeSet<Integer> suspects = new TreeSet<>();
                gather(instrument, called, suspects);
                for (int s : suspects) tool(s).suspect = true;
            }
            if (2 * size <= t.tolerance) t.interval = Math.min(999, t.interval + t.interval / 4);
            if (failed) t.interval = Math.max(1, t.interval / 2);
            if (today > t.day) t.points.add(new int[] {today - t.day, found - t.left});
            if (t.points.size() > 8) t.points.remove(0);
        }
        t.calibrated = true;
        t.suspect = false;
        t.day = today;
        t.left = left;
        t.madeWith = t.reference;
        t.order = ++order;
        return called.size() - had;
    }

    public int measure(int instrument) {
        if (distrusted(instrument) != -1 || measured.size() == 200) throw new IllegalStateException();
        measured.add(new int[] {instrument, ++order});
        return measured.size() - 1;
    }

    public int intervalOf(int instrument) {
        return tool(instrument).interval;
    }

    public int dueOf(int instrument) {
        Tool t = tool(instrument);
        return t.calibrated ? t.day + t.interval : -1;
    }

    public boolean isSuspect(int instrument) {
        return tool(instrument).suspect;
    }

    public int distrusted(int instrument) {
        for (int at : chainOf(instrument)) {
            if (!inForce(at)) return at;
        }
        return -1;
    }

    public int chain(int instrument) {
        return chainOf(instrument).size();
    }

    public int failures(int instrument) {
        return tool(instrument).failures;
    }

    private static long products(Tool t) {
        long sum = 0;
        for (int[] p : t.points) sum += (long) p[0] * p[1];
        return sum;
    }

    private static long squares(Tool t) {
        long sum = 0;
        for (int[] p : t.points) sum += (long) p[0] * p[0];
        return sum;
    }

    public double slope(int instrument) {
        Tool t = tool(instrument);
        return t.points.isEmpty() ? 0.0 : (double) products(t) / (double) squares(t);
    }

    private static long floor(BigInteger over, BigInteger under) {
        BigInteger[] parts = over.divideAndRemainder(under);
        return parts[0].longValueExact() - (parts[1].signum() < 0 ? 1 : 0);
    }

    private static long errorAfter(Tool t, int days) {
        if (t.points.isEmpty()) return t.left;
        BigInteger under = BigInteger.valueOf(squares(t));
        BigInteger over = BigInteger.valueOf(products(t)).multiply(BigInteger.valueOf(days))
                .add(BigInteger.valueOf(t.left).multiply(under));
        return floor(over, under);
    }

    public long expected(int instrument, int days) {
        Tool t = tool(instrument);
        range(days, 0, 9999);
        if (!t.calibrated) throw new IllegalStateException();
        return errorAfter(t, days);
    }

    /** Day by day, in longs: the small random sums are far from their end. */
    public int driftsOut(int instrument) {
        Tool t = tool(instrument);
        if (!t.calibrated) return -1;
        long up = products(t), down = squares(t);
        for (int days = 0; days <= 9999; days++) {
            long error = t.points.isEmpty() ? t.left : Math.floorDiv(t.left * down + up * days, down);
            if (error > t.tolerance || -error > t.tolerance) return days;
        }
        return -1;
    }

    public int uncertainty(int instrument) {
        Tool t = tool(instrument);
        if (t.reference == -1) return t.own;
        int above = uncertainty(t.reference);
        int root = 0;
        while (root * root < t.own * t.own + above * above) root++;
        return root;
    }

    public int limit(int instrument) {
        int less = tool(instrument).tolerance - uncertainty(instrument);
        return less < 0 ? 0 : less;
    }

    public int measurements() {
        return measured.size();
    }

    public boolean isCalledBack(int measurement) {
        if (measurement < 0 || measurement >= measured.size()) throw new IndexOutOfBoundsException();
        return called.contains(measurement);
    }

    public int calledBack() {
        return called.size();
    }

    public int calledBackByLog() {
        return called.size();
    }

    public int atStake(int instrument) {
        if (!tool(instrument).calibrated) return 0;
        TreeSet<Integer> all = new TreeSet<>(called);
        gather(instrument, all, new TreeSet<>());
        return all.size() - called.size();
    }

    public int benchDay(int instrument, int each) {
        Tool t = tool(instrument);
        range(each, 1, 12);
        if (!t.calibrated) return -1;
        List<Integer> waiting = new ArrayList<>();
        for (int n = 0; n < tools.size(); n++) {
            if (tools.get(n).calibrated) waiting.add(n);
        }
        waiting.sort((a, b) -> dueOf(a) != dueOf(b) ? dueOf(a) - dueOf(b) : a - b);
        int day = today;
        for (int place = 0; place < waiting.size(); place++) {
            if (place > 0 && place % each == 0) day++;
            if (waiting.get(place) == instrument) return day;
        }
        throw new AssertionError("a calibrated instrument waits");
    }

    public int late(int each) {
        range(each, 1, 12);
        int count = 0;
        for (int n = 0; n < tools.size(); n++) {
            if (tools.get(n).calibrated && benchDay(n, each) > dueOf(n)) count++;
        }
        return count;
    }
}
