import java.math.BigInteger;
import java.util.ArrayDeque;
import java.util.ArrayList;
import java.util.Deque;
import java.util.List;
import java.util.Set;
import java.util.TreeSet;
import java.util.regex.Matcher;
import java.util.regex.Pattern;

/**
 * The document once more, in another manner: unlimited whole numbers, all samples kept, saved states as
 * copies. It also notes which corners were reached, so that a test can tell that its runs went there.
 */
final class Model {
    static final int[][] RANGES = {
        {50000, 65536}, {0, 500}, {0, 100}, {2, 20}, {1, 2000}, {0, 100}, {1, 65536}};
    static final Set<String> REACHED = new TreeSet<>();

    private static final BigInteger ONE = big(65536);
    private static final Pattern SAMPLE = Pattern.compile("(-?\\d{1,4}),(-?\\d{1,4}),(-?\\d{1,4});");

    private static final class Data {
        int[] settings = {64880, 2, 1, 8, 500, 0, 3277};
        long[][] boxes = {{-1310720, 1310720}, {-1310720, 1310720}, {-1310720, 1310720}};
        BigInteger[] parameters = {big(0), ONE, big(0)};
        BigInteger[][] p = initialP();
        int[] counts = new int[5];
        List<int[]> regressors = new ArrayList<>();
        int[] plant = {800, 500, 0};
        int noise = 0;
        long s = 1;
        int output = 0;

        Data copy() {
            Data d = new Data();
            d.settings = settings.clone();
            for (int i = 0; i < 3; i++) {
                d.boxes[i] = boxes[i].clone();
                d.p[i] = p[i].clone();
            }
            d.parameters = parameters.clone();
            d.counts = counts.clone();
            d.regressors = new ArrayList<>(regressors);
            d.plant = plant.clone();
            d.noise = noise;
            d.s = s;
            d.output = output;
            return d;
        }
    }

    private Data now = new Data();
    private final Deque<Data> saved = new ArrayDeque<>();
    private final StringBuilder text = new StringBuilder();

    private static BigInteger big(long value) {
        return BigInteger.valueOf(value);
    }

    private static BigInteger[][] initialP() {
        BigInteger[][] p = new BigInteger[3][3];
        for (int i = 0; i < 3; i++) {
            for (int j = 0; j < 3; j++) {
                p[i][j] = i == j ? big(6553600) : big(0);
            }
        }
        return p;
    }

    private static BigInteger floor(BigInteger a, BigInteger b) {
        BigInteger[] parts = fits(a).divideAndRemainder(fits(b));
        return parts[1].signum() < 0 ? parts[0].subtract(BigInteger.ONE) : parts[0];
    }

    /** The document says that everything fits into long; this would throw if it did not. */
    private static BigInteger fits(BigInteger a) {
        a.longValueExact();
        return a;
    }

    private static BigInteger bring(String name, BigInteger value, long least, long most) {
        if (value.compareTo(big(least)) < 0) {
            REACHED.add(name + " at the low end");
            return big(least);
        }
        if (value.compareTo(big(most)) > 0) {
            REACHED.add(name + " at the high end");
            return big(most);
        }
        return value;
    }

    private static void demand(boolean right) {
        if (!right) {
            throw new IllegalArgumentException();
        }
    }

    private static void demandIndex(int i) {
        if (i < 0 || i > 2) {
            throw new IndexOutOfBoundsException();
        }
    }

    private static boolean within(long value, long least, long most) {
        return least <= value && value <= most;
    }

    private void save() {
        saved.addLast(now.copy());
        if (saved.size() > 4) {
            saved.removeFirst();
            REACHED.add("oldest saved state dropped");
        }
    }

    long set(int what, int value) {
        demand(within(what, 0, 6));
        demand(within(value, RANGES[what][0], RANGES[what][1]));
        save();
        int before = now.settings[what];
        now.settings[what] = value;
        return before;
    }

    long value(int what) {
        demand(within(what, 0, 6));
        return now.settings[what];
    }

    long setBox(int i, int low, int high) {
        demandIndex(i);
        demand(within(low, -1310720, 1310720) && within(high, -1310720, 1310720) && low <= high);
        save();
        now.boxes[i] = new long[] {low, high};
        BigInteger before = now.parameters[i];
        now.parameters[i] = bring("setBox", before, low, high);
        return before.equals(now.parameters[i]) ? 0 : 1;
    }

    long box(int i, boolean high) {
        demandIndex(i);
        return now.boxes[i][high ? 1 : 0];
    }

    long setPlant(int p, int q, int c, int noise) {
        demand(within(p, -3000, 3000) && within(q, -3000, 3000) && within(c, -3000, 3000));
        demand(within(noise, 0, 200));
        save();
        now.plant = new int[] {p, q, c};
        now.noise = noise;
        return now.output;
    }

    long seed(int seed, int output) {
        demand(within(seed, 0, 999999) && signal(output));
        save();
        int before = now.output;
        now.s = seed;
        now.output = output;
        return before;
    }

    private static boolean signal(int value) {
        return within(value, -2000, 2000);
    }

    private static BigInteger[] regressor(int y, int u) {
        return new BigInteger[] {big(y), big(u), big(1)};
    }

    private static BigInteger product(BigInteger[] a, BigInteger[] b) {
        return a[0].multiply(b[0]).add(a[1].multiply(b[1])).add(a[2].multiply(b[2]));
    }

    private static BigInteger spread(Data d, BigInteger[] f, BigInteger[] g) {
        for (int i = 0; i < 3; i++) {
            g[i] = product(d.p[i], f);
        }
        BigInteger s = product(f, g);
        if (s.signum() < 0) {
            REACHED.add("negative s");
        }
        return s.max(big(0));
    }

    private static BigInteger take(Data d, int y, int u, int z) {
        BigInteger[] f = regressor(y, u);
        BigInteger e = ONE.multiply(big(z)).subtract(product(d.parameters, f));
        d.counts[0]++;
        d.regressors.add(new int[] {y, u});
        if (e.abs().compareTo(ONE.multiply(big(d.settings[1]))) <= 0) {
            d.counts[1]++;
            REACHED.add("ignored sample");
            return e;
        }
        BigInteger[] g = new BigInteger[3];
        BigInteger s = spread(d, f, g);
        BigInteger l = big(d.settings[0]);
        if (s.compareTo(ONE.multiply(big(d.settings[2]))) < 0) {
            l = ONE;
            d.counts[4]++;
            REACHED.add("directional forgetting");
        }
        BigInteger[] k = new BigInteger[3];
        boolean outside = false;
        for (int i = 0; i < 3; i++) {
            k[i] = bring("gain", floor(ONE.multiply(g[i]), l.add(s)), -6553600, 6553600);
            BigInteger moved = d.parameters[i].add(floor(k[i].multiply(e), ONE));
            d.parameters[i] = bring("parameter", moved, d.boxes[i][0], d.boxes[i][1]);
            outside |= !moved.equals(d.parameters[i]);
        }
        d.counts[3] += outside ? 1 : 0;
        BigInteger sum = big(0);
        BigInteger[][] old = {d.p[0].clone(), d.p[1].clone(), d.p[2].clone()};
        for (int i = 0; i < 3; i++) {
            for (int j = i; j < 3; j++) {
                BigInteger less = old[i][j].subtract(floor(k[i].multiply(g[j]), ONE));
                d.p[i][j] = bring(i == j ? "diagonal of P" : "element of P",
                        floor(less.multiply(ONE), l), i == j ? 1 : -65536000, 65536000);
                d.p[j][i] = d.p[i][j];
            }
            sum = sum.add(d.p[i][i]);
        }
        if (sum.compareTo(big(2500L * 65536)) > 0) {
            d.p = initialP();
            d.counts[2]++;
            REACHED.add("reset of P");
        }
        return e;
    }

    long sample(int y, int u, int z) {
        demand(signal(y) && signal(u) && within(z, -4000, 4000));
        save();
        return floor(take(now, y, u, z), ONE).longValueExact();
    }

    long restart() {
        save();
        int before = now.counts[0];
        Data fresh = new Data();
        for (int i = 0; i < 3; i++) {
            now.parameters[i] = bring("restart", fresh.parameters[i], now.boxes[i][0], now.boxes[i][1]);
        }
        now.p = fresh.p;
        now.counts = fresh.counts;
        now.regressors = fresh.regressors;
        return before;
    }

    long parameter(int i) {
        demandIndex(i);
        return now.parameters[i].longValueExact();
    }

    long covariance(int i, int j) {
        demandIndex(i);
        demandIndex(j);
        return now.p[i][j].longValueExact();
    }

    long count(int what) {
        demand(within(what, 0, 4));
        return now.counts[what];
    }

    long predict(int y, int u) {
        demand(signal(y) && signal(u));
        return floor(product(now.parameters, regressor(y, u)), ONE).longValueExact();
    }

    double uncertainty(int y, int u) {
        demand(signal(y) && signal(u));
        return spread(now, regressor(y, u), new BigInteger[3]).doubleValue() / 65536.0;
    }

    private List<int[]> window() {
        int size = now.regressors.size();
        return now.regressors.subList(Math.max(0, size - now.settings[3]), size);
    }

    long inWindow() {
        return window().size();
    }

    long determinant() {
        long a = 0;
        long b = 0;
        long c = 0;
        for (int[] f : window()) {
            a += (long) f[0] * f[0];
            b += (long) f[1] * f[1];
            c += (long) f[0] * f[1];
        }
        return a * b - c * c;
    }

    long exciting() {
        long n = inWindow();
        boolean is = n >= now.settings[3] && determinant() >= 1000 * n * n;
        if (is) {
            REACHED.add("exciting");
        }
        return is ? 1 : 0;
    }

    private static int law(Data d, int r, int y) {
        BigInteger b = d.parameters[1];
        if (b.abs().compareTo(big(d.settings[6])) < 0) {
            b = big(b.signum() < 0 ? -d.settings[6] : d.settings[6]);
            REACHED.add("smallest gain");
        }
        BigInteger numerator = ONE.multiply(big(r)).subtract(d.parameters[0].multiply(big(y)))
                .subtract(d.parameters[2]);
        if (b.signum() < 0) {
            REACHED.add("negative gain");
            numerator = numerator.negate();
            b = b.negate();
        }
        long dither = d.counts[0] % 2 == 0 ? d.settings[5] : -d.settings[5];
        BigInteger input = floor(numerator, b).add(big(dither));
        return bring("input", input, -d.settings[4], d.settings[4]).intValueExact();
    }

    private static void step(Data d, int u) {
        int before = d.output;
        d.s = (1103515245L * d.s + 12345) % 2147483648L;
        long n = d.s / 65536 % (2 * d.noise + 1) - d.noise;
        BigInteger sum = big((long) d.plant[0] * before + (long) d.plant[1] * u + d.plant[2]);
        BigInteger output = floor(sum, big(1000)).add(big(n));
        d.output = bring("output of the plant", output, -2000, 2000).intValueExact();
        take(d, before, u, d.output);
    }

    private static void closedStep(Data d, int r) {
        step(d, law(d, r, d.output));
    }

    long control(int r, int y) {
        demand(signal(r) && signal(y));
        return law(now, r, y);
    }

    long run(int r, int steps) {
        demand(signal(r) && within(steps, 0, 500));
        save();
        for (int i = 0; i < steps; i++) {
            closedStep(now, r);
        }
        return now.output;
    }

    long drive(int u, int steps) {
        demand(signal(u) && within(steps, 0, 500));
        save();
        for (int i = 0; i < steps; i++) {
            step(now, u);
        }
        return now.output;
    }

    long output() {
        return now.output;
    }

    long bias(int i) {
        demandIndex(i);
        return parameter(i) - Math.floorDiv(65536 * now.plant[i], 1000);
    }

    private static long cost(Data d, int r, int steps) {
        long sum = 0;
        for (int i = 0; i < steps; i++) {
            closedStep(d, r);
            sum += Math.abs(r - d.output);
        }
        return sum;
    }

    long costOf(int r, int steps) {
        demand(signal(r) && within(steps, 0, 500));
        return cost(now.copy(), r, steps);
    }

    long settling(int r, int tolerance) {
        demand(signal(r) && within(tolerance, 0, 500));
        Data d = now.copy();
        boolean[] near = new boolean[501];
        for (int n = 1; n <= 500; n++) {
            closedStep(d, r);
            near[n] = Math.abs(r - d.output) <= tolerance;
            if (n >= 5 && near[n] && near[n - 1] && near[n - 2] && near[n - 3] && near[n - 4]) {
                REACHED.add("settled");
                return n;
            }
        }
        REACHED.add("not settled");
        return -1;
    }

    long bestDither(int r, int steps, int most) {
        demand(signal(r) && within(steps, 1, 50) && within(most, 0, 100));
        long[] costs = new long[most + 1];
        for (int i = 0; i <= most; i++) {
            Data d = now.copy();
            d.settings[5] = i;
            costs[i] = cost(d, r, steps);
        }
        int best = most;
        for (int i = most; i >= 0; i--) {
            best = costs[i] <= costs[best] ? i : best;
        }
        REACHED.add(best == 0 ? "no dither is best" : "a dither is best");
        return best;
    }

    long append(int value) {
        demand(within(value, 0, 127));
        if (text.length() >= 120) {
            throw new IllegalStateException();
        }
        text.append((char) value);
        return text.length();
    }

    long clearText() {
        int length = text.length();
        text.setLength(0);
        return length;
    }

    long replay() {
        int errorAt = syntaxError(text.toString());
        if (errorAt >= 0) {
            REACHED.add("syntax error");
            return -10 - errorAt;
        }
        List<int[]> samples = new ArrayList<>();
        Matcher m = SAMPLE.matcher(text);
        while (m.find()) {
            samples.add(new int[] {
                Integer.parseInt(m.group(1)), Integer.parseInt(m.group(2)), Integer.parseInt(m.group(3))});
        }
        for (int i = 0; i < samples.size(); i++) {
            int[] t = samples.get(i);
            if (!signal(t[0]) || !signal(t[1]) || !within(t[2], -4000, 4000)) {
                REACHED.add("text with a number out of range");
                return -1000 - i;
            }
        }
        save();
        for (int[] t : samples) {
            take(now, t[0], t[1], t[2]);
        }
        REACHED.add(samples.isEmpty() ? "empty text" : "replayed text");
        return samples.size();
    }

    /** The longest beginning that some right text has; -1 if the text itself is right. */
    private static int syntaxError(String text) {
        if (text.matches("((-?[0-9]{1,4},){2}-?[0-9]{1,4};)*")) {
            return -1;
        }
        String number = "-?[0-9]{1,4}";
        String part = "-?[0-9]{0,4}";
        String beginning = "((" + number + ",){2}" + number + ";)*"
                + "(" + part + "|" + number + "," + part + "|" + number + "," + number + "," + part + ")";
        int length = text.length();
        while (!text.substring(0, length).matches(beginning)) {
            length--;
        }
        return length;
    }

    long undo() {
        if (saved.isEmpty()) {
            throw new IllegalStateException();
        }
        now = saved.removeLast();
        return saved.size();
    }

    long digest() {
        List<Long> v = new ArrayList<>();
        v.add((long) text.length());
        for (int i = 0; i < 7; i++) {
            v.add(value(i));
        }
        for (int i = 0; i < 3; i++) {
            v.add(box(i, false));
            v.add(box(i, true));
            v.add(parameter(i));
        }
        for (int i = 0; i < 9; i++) {
            v.add(covariance(i / 3, i % 3));
        }
        for (int i = 0; i < 5; i++) {
            v.add(count(i));
        }
        v.add((long) now.plant[0]);
        v.add((long) now.plant[1]);
        v.add((long) now.plant[2]);
        v.add((long) now.noise);
        v.add(now.s);
        v.add(output());
        v.add(inWindow());
        v.add(determinant());
        v.add((long) saved.size());
        BigInteger h = big(2971);
        for (long each : v) {
            h = h.multiply(big(31)).add(big(each));
        }
        return h.longValue();
    }
}
