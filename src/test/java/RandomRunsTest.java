import java.util.Random;
import java.util.function.LongSupplier;

/** Runs of random calls, all promises in turn, each answer compared with the model's. */
public final class RandomRunsTest {
    private static final int RUNS = 500;
    // An object is used for at most 512 calls; the longest text that is appended at once has 18 bytes.
    private static final int CALLS = 512 - 20;
    // Small regressors, much forgetting and nothing ignored: P grows until it is reset.
    private static final int GROWTH = 3;
    private static final String[] CORNERS = {
        "oldest saved state dropped", "setBox at the low end", "setBox at the high end", "negative s",
        "ignored sample", "directional forgetting", "gain at the low end", "gain at the high end",
        "parameter at the low end", "parameter at the high end", "diagonal of P at the low end",
        "diagonal of P at the high end", "element of P at the low end", "element of P at the high end",
        "reset of P", "restart at the low end", "restart at the high end", "exciting", "smallest gain",
        "negative gain", "input at the low end", "input at the high end",
        "output of the plant at the low end", "output of the plant at the high end", "settled",
        "not settled", "no dither is best", "a dither is best", "syntax error",
        "text with a number out of range", "empty text", "replayed text"};

    private final Random random;
    private final SelfTuner x = new SelfTuner();
    private final Model m = new Model();
    private final int manner;
    private String call = "";
    private int made = 0;

    private RandomRunsTest(int run) {
        random = new Random(run);
        manner = run % 4;
    }

    public static void main(String[] args) {
        for (int run = 0; run < RUNS; run++) {
            new RandomRunsTest(run).go(run);
        }
        for (String corner : CORNERS) {
            Checks.due("reached: " + corner, Model.REACHED.contains(corner), true);
        }
        Checks.end("RandomRunsTest");
    }

    private void go(int run) {
        for (int i = 0; made < CALLS; i++) {
            compare(run, i);
            made += 2;
            Checks.due("run " + run + ", digest() after call " + i + ", " + call, x.digest(), m.digest());
        }
    }

    private void compare(int run, int i) {
        LongSupplier[] pair = next();
        String want = answer(pair[1]);
        String got = answer(pair[0]);
        Checks.due("run " + run + ", call " + i + ", " + call + ": " + got + ", due is " + want,
                got.equals(want), true);
    }

    private static String answer(LongSupplier call) {
        try {
            return "" + call.getAsLong();
        } catch (IllegalArgumentException | IllegalStateException | IndexOutOfBoundsException e) {
            return e.getClass().getSimpleName();
        }
    }

    /** Mostly in the range, often at an end, seldom outside. */
    private int in(int least, int most) {
        int kind = random.nextInt(100);
        if (kind < 1) {
            return random.nextBoolean() ? least - 1 - random.nextInt(3) : most + 1 + random.nextInt(3);
        }
        if (kind < 2) {
            return random.nextBoolean() ? Integer.MIN_VALUE : Integer.MAX_VALUE;
        }
        if (kind < 12) {
            return random.nextBoolean() ? least : most;
        }
        return least + random.nextInt(most - least + 1);
    }

    private int signal() {
        int kind = random.nextInt(4);
        if (manner == 1) {
            return kind < 3 ? 2000 : -2000;
        }
        if (manner == GROWTH) {
            return kind < 3 || random.nextInt(4) > 0 ? 1 : in(-2, 2);
        }
        return kind == 0 ? in(-20, 20) : kind == 1 ? 0 : in(-2000, 2000);
    }

    private int steps(int most) {
        return random.nextInt(6) == 0 ? in(0, most) : in(0, 12);
    }

    private LongSupplier[] pair(String name, LongSupplier ofX, LongSupplier ofM) {
        call = name;
        return new LongSupplier[] {ofX, ofM};
    }

    private LongSupplier[] next() {
        int kind = random.nextInt(100);
        if (kind < (manner == GROWTH ? 45 : 30)) {
            return samples();
        }
        if (kind < 50) {
            return settings();
        }
        if (kind < 75) {
            return queries();
        }
        if (kind < 90) {
            return steps();
        }
        return texts();
    }

    private LongSupplier[] samples() {
        int y = signal();
        int u = signal();
        int z = manner == 2 ? (y * 8 + u * 5) / 10 : in(-4000, 4000);
        return pair("sample(" + y + ", " + u + ", " + z + ")", () -> x.sample(y, u, z), () -> m.sample(y, u, z));
    }

    private LongSupplier[] settings() {
        int a = in(0, 6);
        int i = in(0, 2);
        switch (random.nextInt(7)) {
            case 0: case 1: {
                int[] range = Model.RANGES[Math.max(0, Math.min(6, a))];
                int v = manner == GROWTH && a < 3 ? range[0] : in(range[0], range[1]);
                return pair("set(" + a + ", " + v + ")", () -> x.set(a, v), () -> m.set(a, v));
            }
            case 2: {
                int low = in(-1310720, 1310720) / (1 + random.nextInt(20));
                int high = random.nextInt(8) == 0 ? in(-1310720, 1310720) : Math.max(low, in(-1310720, 1310720));
                return pair("setBox(" + i + ", " + low + ", " + high + ")",
                        () -> x.setBox(i, low, high), () -> m.setBox(i, low, high));
            }
            case 3: {
                int p = in(-3000, 3000);
                int q = in(-3000, 3000);
                int c = in(-3000, 3000);
                int n = random.nextBoolean() ? 0 : in(0, 200);
                return pair("setPlant(" + p + ", " + q + ", " + c + ", " + n + ")",
                        () -> x.setPlant(p, q, c, n), () -> m.setPlant(p, q, c, n));
            }
            case 4: {
                int s = in(0, 999999);
                int o = in(-2000, 2000);
                return pair("seed(" + s + ", " + o + ")", () -> x.seed(s, o), () -> m.seed(s, o));
            }
            case 5:
                return random.nextInt(3) > 0 ? pair("undo()", x::undo, m::undo) : pair("restart()", x::restart, m::restart);
            default:
                return pair("setPlant(800, 500, 0, 0)", () -> x.setPlant(800, 500, 0, 0), () -> m.setPlant(800, 500, 0, 0));
        }
    }

    private LongSupplier[] queries() {
        int i = in(0, 2);
        int j = in(0, 2);
        int y = in(-2000, 2000);
        int u = in(-2000, 2000);
        int what = in(0, 4);
        boolean high = random.nextBoolean();
        switch (random.nextInt(12)) {
            case 0: return pair("box(" + i + ", " + high + ")", () -> x.box(i, high), () -> m.box(i, high));
            case 1: return pair("parameter(" + i + ")", () -> x.parameter(i), () -> m.parameter(i));
            case 2: return pair("covariance(" + i + ", " + j + ")", () -> x.covariance(i, j), () -> m.covariance(i, j));
            case 3: return pair("count(" + what + ")", () -> x.count(what), () -> m.count(what));
            case 4: return pair("predict(" + y + ", " + u + ")", () -> x.predict(y, u), () -> m.predict(y, u));
            case 5: return pair("uncertainty(" + y + ", " + u + ")",
                    () -> Double.doubleToLongBits(x.uncertainty(y, u)),
                    () -> Double.doubleToLongBits(m.uncertainty(y, u)));
            case 6: return pair("inWindow()", x::inWindow, m::inWindow);
            case 7: return pair("determinant()", x::determinant, m::determinant);
            case 8: return pair("exciting()", () -> x.exciting() ? 1 : 0, m::exciting);
            case 9: return pair("control(" + y + ", " + u + ")", () -> x.control(y, u), () -> m.control(y, u));
            case 10: return pair("bias(" + i + ")", () -> x.bias(i), () -> m.bias(i));
            default: return pair("value(" + what + ")", () -> x.value(what), () -> m.value(what));
        }
    }

    private LongSupplier[] steps() {
        int r = random.nextBoolean() ? in(-200, 200) : in(-2000, 2000);
        int n = steps(random.nextInt(4) == 0 ? 500 : 60);
        switch (random.nextInt(6)) {
            case 0: case 1: return pair("run(" + r + ", " + n + ")", () -> x.run(r, n), () -> m.run(r, n));
            case 2: return pair("drive(" + r + ", " + n + ")", () -> x.drive(r, n), () -> m.drive(r, n));
            case 3: return pair("costOf(" + r + ", " + n + ")", () -> x.costOf(r, n), () -> m.costOf(r, n));
            case 4: {
                int t = random.nextBoolean() ? in(0, 500) : in(0, 10);
                return pair("settling(" + r + ", " + t + ")", () -> x.settling(r, t), () -> m.settling(r, t));
            }
            default: {
                int s = random.nextInt(5) == 0 ? in(1, 50) : in(1, 8);
                int most = random.nextInt(5) == 0 ? in(0, 100) : in(0, 12);
                return pair("bestDither(" + r + ", " + s + ", " + most + ")",
                        () -> x.bestDither(r, s, most), () -> m.bestDither(r, s, most));
            }
        }
    }

    private LongSupplier[] texts() {
        int kind = random.nextInt(10);
        if (kind < 2) {
            return pair("clearText()", x::clearText, m::clearText);
        }
        if (kind < 5) {
            return pair("replay()", x::replay, m::replay);
        }
        if (kind < 6) {
            int b = random.nextBoolean() ? in(0, 127) : "0123456789-,;".charAt(random.nextInt(13));
            return pair("append(" + b + ")", () -> x.append(b), () -> m.append(b));
        }
        String t = number(2000) + "," + number(2000) + "," + number(4000) + ";";
        String broken = random.nextInt(8) == 0 ? t.substring(0, random.nextInt(t.length())) : t;
        return pair("the bytes of " + broken, () -> appendAll(broken, true), () -> appendAll(broken, false));
    }

    private String number(int most) {
        return random.nextInt(12) == 0 ? "" + in(-9999, 9999) : "" + (random.nextInt(2 * most + 1) - most);
    }

    private long appendAll(String t, boolean ofX) {
        long answer = 0;
        made += ofX ? t.length() : 0;
        for (int i = 0; i < t.length(); i++) {
            answer = ofX ? x.append(t.charAt(i)) : m.append(t.charAt(i));
        }
        return answer;
    }
}
