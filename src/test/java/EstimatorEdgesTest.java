/** The sentences of "Estimator" that name a bound, each with a test of its own. */
public final class EstimatorEdgesTest {
    private static final int ONE = 65536;
    private static final int END = 20 * ONE;
    private static final int FIRST = 100 * ONE;

    public static void main(String[] args) {
        Checks.run(EstimatorEdgesTest::step1Error);
        Checks.run(EstimatorEdgesTest::step1Rounding);
        Checks.run(EstimatorEdgesTest::step1NumberOfSamples);
        Checks.run(EstimatorEdgesTest::step1Window);
        Checks.run(EstimatorEdgesTest::step2DeadZone);
        Checks.run(EstimatorEdgesTest::step2NothingElse);
        Checks.run(EstimatorEdgesTest::step3SpreadAtLeastNothing);
        Checks.run(EstimatorEdgesTest::step3ExcitationLimit);
        Checks.run(EstimatorEdgesTest::step3NoExcitationLimit);
        Checks.run(EstimatorEdgesTest::step3ForgettingFactor);
        Checks.run(EstimatorEdgesTest::step3GainAtMost);
        Checks.run(EstimatorEdgesTest::step3GainAtLeast);
        Checks.run(EstimatorEdgesTest::step4Rounding);
        Checks.run(EstimatorEdgesTest::step4Boxes);
        Checks.run(EstimatorEdgesTest::step4NearerEnd);
        Checks.run(EstimatorEdgesTest::step4CountsSamples);
        Checks.run(EstimatorEdgesTest::step4EachParameter);
        Checks.run(EstimatorEdgesTest::step5Rounding);
        Checks.run(EstimatorEdgesTest::step5DiagonalAtMost);
        Checks.run(EstimatorEdgesTest::step5ElementAtMost);
        Checks.run(EstimatorEdgesTest::step5ElementAtLeast);
        Checks.run(EstimatorEdgesTest::step5DiagonalAtLeast);
        Checks.run(EstimatorEdgesTest::step6ExactlyTheBound);
        Checks.run(EstimatorEdgesTest::step6JustAboveTheBound);
        Checks.run(EstimatorEdgesTest::step6InitialOne);
        Checks.end("EstimatorEdgesTest");
    }

    private static void put(SelfTuner x, int parameter, int value) {
        x.setBox(parameter, value, value);
        x.setBox(parameter, -END, END);
    }

    private static SelfTuner with(int a, int b, int c) {
        SelfTuner x = new SelfTuner();
        put(x, 0, a);
        put(x, 1, b);
        put(x, 2, c);
        return x;
    }

    /** Nothing is ignored, nothing is forgotten in one direction only, and P grows as fast as it may. */
    private static SelfTuner growing() {
        SelfTuner x = new SelfTuner();
        x.set(0, 50000);
        x.set(1, 0);
        x.set(2, 0);
        return x;
    }

    private static void dueParameters(String when, SelfTuner x, long a, long b, long c) {
        Checks.due("parameter(0) " + when, x.parameter(0), a);
        Checks.due("parameter(1) " + when, x.parameter(1), b);
        Checks.due("parameter(2) " + when, x.parameter(2), c);
    }

    private static void dueFirstMatrix(String when, SelfTuner x) {
        for (int i = 0; i < 9; i++) {
            Checks.due("covariance(" + i / 3 + ", " + i % 3 + ") " + when, x.covariance(i / 3, i % 3),
                    i / 3 == i % 3 ? FIRST : 0);
        }
    }

    private static void step1Error() {
        Checks.sentence("Step 1: e = ONE * z - (the sum of parameter i * f i), at the ends of all of them");
        Checks.due("the least", with(END, END, END).sample(2000, 2000, -4000), -84020);
        Checks.due("the greatest", with(END, END, -END).sample(-2000, -2000, 4000), 84020);
        Checks.due("with f2 = 1 for y = u = 0", with(END, END, 3 * ONE).sample(0, 0, 10), 7);
    }

    private static void step1Rounding() {
        Checks.sentence("sample returns e / ONE, rounded down");
        Checks.due("e = 1", with(0, 0, -1).sample(0, 0, 0), 0);
        Checks.due("e = ONE - 1", with(0, 0, 1).sample(0, 0, 1), 0);
        Checks.due("e = ONE", with(0, 0, 0).sample(0, 0, 1), 1);
        Checks.due("e = -1", with(0, 0, 1).sample(0, 0, 0), -1);
        Checks.due("e = -ONE", with(0, 0, 0).sample(0, 0, -1), -1);
        Checks.due("e = -ONE - 1", with(0, 0, 1).sample(0, 0, -1), -2);
        Checks.due("e = 3 * ONE + 1", with(0, 0, -1).sample(0, 0, 3), 3);
        Checks.due("e = -3 * ONE - 1", with(0, 0, 1).sample(0, 0, -3), -4);
    }

    private static void step1NumberOfSamples() {
        Checks.sentence("Step 1: The number of samples increases by 1");
        SelfTuner x = new SelfTuner();
        x.sample(0, 0, 2);
        Checks.due("for an ignored sample: count(0)", x.count(0), 1);
        x.sample(0, 0, 3);
        Checks.due("for one that is not ignored: count(0)", x.count(0), 2);
        x.run(5, 0);
        x.drive(5, 0);
        x.replay();
        Checks.due("for none: count(0)", x.count(0), 2);
    }

    private static void step1Window() {
        Checks.sentence("Step 1: the regressor is the latest one of the window");
        SelfTuner x = new SelfTuner();
        x.set(1, 500);
        x.set(3, 2);
        x.sample(1, 0, 0);
        x.sample(0, 3, 0);
        Checks.due("ignored samples, too: determinant()", x.determinant(), 9);
        x.sample(5, 1, 4000);
        Checks.due("one that is not ignored: determinant()", x.determinant(), 25L * 10 - 25);
        Checks.due("only two were ignored", x.count(1), 2);
    }

    private static void step2DeadZone() {
        Checks.sentence("Step 2: If |e| is at most ONE times the dead zone, the sample is ignored");
        for (int zone : new int[] {0, 1, 2, 499, 500}) {
            for (int beyond = -1; beyond <= 1; beyond++) {
                if (zone == 0 && beyond < 0) {
                    continue;
                }
                // |e| = zone * ONE + beyond, above 0 and below.
                dueIgnored(zone, -beyond, zone, beyond <= 0);
                dueIgnored(zone, beyond, -zone, beyond <= 0);
            }
        }
    }

    private static void dueIgnored(int zone, int parameter, int z, boolean want) {
        SelfTuner x = with(0, 0, parameter);
        x.set(1, zone);
        long e = (long) ONE * z - parameter;
        Checks.due("e", new Step(x, 0, 0, z).error, e);
        x.sample(0, 0, z);
        Checks.due("count(1) for the dead zone " + zone + ", e = " + e, x.count(1), want ? 1 : 0);
        Checks.due("P stays for the dead zone " + zone + ", e = " + e, x.covariance(2, 2) == FIRST, want);
    }

    private static void step2NothingElse() {
        Checks.sentence("Step 2: ... nothing else happens");
        // Neither the greatest s nor one that is less than the excitation limit matters.
        dueNothingElse(Twins.busy(), 0, 60000);
        SelfTuner x = new SelfTuner();
        x.sample(3, 4, 4000);
        dueNothingElse(x, 100, ONE);
    }

    private static void dueNothingElse(SelfTuner x, int limit, int forgetting) {
        x.set(1, 500);
        x.set(2, limit);
        long[] before = estimate(x);
        int samples = x.count(0);
        int ignored = x.count(1);
        int near = (int) x.predict(3, 4) + 1;
        Checks.due("L, if the sample were not ignored", new Step(x, 3, 4, near).forgetting, forgetting);
        x.sample(3, 4, near);
        long[] after = estimate(x);
        for (int i = 0; i < before.length; i++) {
            Checks.due("number " + i + " of the estimate", after[i], before[i]);
        }
        Checks.due("count(0)", x.count(0), samples + 1);
        Checks.due("count(1)", x.count(1), ignored + 1);
    }

    private static long[] estimate(SelfTuner x) {
        long[] v = new long[15];
        for (int i = 0; i < 9; i++) {
            v[i] = x.covariance(i / 3, i % 3);
            v[9 + i / 3] = x.parameter(i / 3);
            v[12 + i / 3] = x.count(2 + i / 3);
        }
        return v;
    }

    /** P has bent so far behind these samples that s is below 0 for some regressors. */
    private static SelfTuner bent() {
        SelfTuner x = growing();
        for (int i = 0; i < 9; i++) {
            x.sample(1, 2000, i % 2 == 0 ? -4000 : 4000);
        }
        put(x, 0, 0);
        put(x, 1, 0);
        put(x, 2, 0);
        return x;
    }

    private static void step3SpreadAtLeastNothing() {
        Checks.sentence("Step 3: s the sum of f i * g i, but at least 0");
        SelfTuner x = bent();
        x.set(0, 65536);
        put(x, 2, -10);
        Checks.due("the sum", new Step(x, 0, 1600, 0).s, -38841600);
        Checks.due("g 1", new Step(x, 0, 1600, 0).g[1], -27818);
        Checks.dueDouble("uncertainty(0, 1600)", x.uncertainty(0, 1600), 0.0);
        x.sample(0, 1600, 0);
        // k 1 = ONE * -27818 / (ONE + 0), and -27818 * 10 / ONE is -4.2.
        Checks.due("parameter(1) behind a sample with e = 10", x.parameter(1), -5);
        Checks.due("no directional forgetting for the limit 0", x.count(4), 0);
        SelfTuner y = bent();
        y.set(2, 1);
        put(y, 2, -10);
        y.sample(0, 1600, 0);
        Checks.due("s = 0 is less than ONE", y.count(4), 1);
        Checks.due("parameter(1) with L = ONE", y.parameter(1), -5);
        SelfTuner some = new SelfTuner();
        Checks.dueDouble("s = 2000 * 2000 * 100 + 100", some.uncertainty(0, -2000), 400000100.0);
    }

    private static void step3ExcitationLimit() {
        Checks.sentence("Step 3: L is ONE if s is less than the excitation limit times ONE");
        SelfTuner at = new SelfTuner();
        at.set(0, 65199);
        at.sample(0, 1, 10);
        Checks.due("s = ONE", new Step(at, 0, 1, 3000).s, ONE);
        long before = at.covariance(0, 0);
        at.sample(0, 1, 3000);
        Checks.due("is not less: count(4)", at.count(4), 0);
        Checks.due("is not less: P 0 0 is divided by L", at.covariance(0, 0), before * ONE / 65199);
        SelfTuner below = new SelfTuner();
        below.set(0, 65500);
        below.sample(0, 2, 10);
        Checks.due("s = ONE - 1", new Step(below, 0, 2, 3000).s, ONE - 1);
        before = below.covariance(0, 0);
        below.sample(0, 2, 3000);
        Checks.due("is less: count(4)", below.count(4), 1);
        Checks.due("is less: P 0 0 stays", below.covariance(0, 0), before);
        SelfTuner greatest = new SelfTuner();
        greatest.set(2, 100);
        Checks.due("s = 100 * ONE", new Step(greatest, 0, 0, 10).s, FIRST);
        greatest.sample(0, 0, 10);
        Checks.due("is not less than the greatest limit", greatest.count(4), 0);
        SelfTuner other = new SelfTuner();
        other.sample(1, 0, 10);
        Checks.due("s in whole units", new Step(other, 0, 0, 3000).s / ONE, 50);
        other.set(2, 50);
        other.sample(0, 0, 3000);
        Checks.due("the limit rounded down from s", other.count(4), 0);
        other.undo();
        other.set(2, 51);
        other.sample(0, 0, 3000);
        Checks.due("the next limit", other.count(4), 1);
    }

    private static void step3NoExcitationLimit() {
        Checks.sentence("Step 3: with the excitation limit 0, no s is less");
        SelfTuner x = growing();
        for (int i = 0; i < 30; i++) {
            x.sample(0, 0, i % 2 == 0 ? 40 : -40);
        }
        Checks.due("small s: count(4)", x.count(4), 0);
        SelfTuner y = bent();
        y.sample(0, 1600, 77);
        Checks.due("s = 0: count(4)", y.count(4), 0);
        Checks.due("it was taken", y.count(1), 0);
    }

    private static void step3ForgettingFactor() {
        Checks.sentence("Settings: the forgetting factor L, 50000 to 65536");
        SelfTuner least = new SelfTuner();
        least.set(0, 50000);
        least.sample(0, 0, 10);
        Checks.due("L = 50000: P 0 0", least.covariance(0, 0), 8589934);
        // k = ONE * 6553600 / 6603600 = 65039
        Checks.due("L = 50000: parameter(2)", least.parameter(2), 650390);
        SelfTuner most = new SelfTuner();
        most.set(0, 65536);
        most.sample(0, 0, 10);
        Checks.due("L = ONE: P 0 0", most.covariance(0, 0), FIRST);
        // k = ONE * 6553600 / 6619136 = 64887
        Checks.due("L = ONE: parameter(2)", most.parameter(2), 648870);
    }

    /** e is 12000 or -12000 units, so that a gain greater by 1 shows on one of the two. */
    private static void dueGain(int y, int u, int l, int parameter, long gain, long used) {
        for (int sign = -1; sign <= 1; sign += 2) {
            SelfTuner x = bent();
            x.set(0, l);
            put(x, 2, -sign * 12000);
            Step step = new Step(x, y, u, 0);
            Checks.due("e", step.error, sign * 12000);
            Checks.due("k " + parameter + " before its bounds", step.gain[parameter], gain);
            long before = x.parameter(parameter);
            x.sample(y, u, 0);
            Checks.due("parameter(" + parameter + ") for e = " + step.error, x.parameter(parameter),
                    before + Math.floorDiv(used * step.error, (long) ONE));
            Checks.due("P " + parameter + " 1", x.covariance(parameter, 1),
                    Math.min(1000L * ONE, Math.max(-1000L * ONE, step.element[parameter][1])));
        }
    }

    private static void step3GainAtMost() {
        Checks.sentence("Step 3: k i at most 100 * ONE");
        dueGain(0, 1600, 56672, 2, 6553600, 6553600);
        dueGain(1, 1593, 59291, 2, 6553601, 6553600);
        dueGain(0, 1593, 50000, 2, 7771424, 6553600);
        dueGain(0, 1600, 56673, 2, 6553484, 6553484);
    }

    private static void step3GainAtLeast() {
        Checks.sentence("Step 3: k i at least -(100 * ONE)");
        dueGain(0, 1900, 55582, 2, -6553600, -6553600);
        dueGain(1, 1892, 52305, 0, -6553602, -6553600);
        dueGain(0, 1900, 50000, 0, -93147268, -6553600);
        dueGain(0, 1900, 55583, 2, -6553483, -6553483);
    }

    private static void step4Rounding() {
        Checks.sentence("Step 4: Each parameter i increases by (k i * e) / ONE, rounded down");
        SelfTuner down = with(0, 0, 1);
        down.set(1, 0);
        // k 2 = 64893
        down.sample(0, 0, 0);
        Checks.due("e = -1: parameter(2)", down.parameter(2), 0);
        SelfTuner up = with(0, 0, -1);
        up.set(1, 0);
        up.sample(0, 0, 0);
        Checks.due("e = 1: parameter(2)", up.parameter(2), -1);
        SelfTuner two = with(0, 0, -2);
        two.set(1, 0);
        two.sample(0, 0, 0);
        Checks.due("e = 2: parameter(2)", two.parameter(2), -1);
        SelfTuner other = with(0, 0, 2);
        other.set(1, 0);
        // k 0 = -32607 for y = -1, and s = 2 * FIRST; the error is -2.
        other.sample(-1, 0, 0);
        Checks.due("k below 0 and e = -2: parameter(0)", other.parameter(0), 0);
        Checks.due("k above 0 and e = -2: parameter(2)", other.parameter(2), 1);
    }

    private static void step4Boxes() {
        Checks.sentence("Step 4: ... is then brought into its box");
        for (int i = 0; i < 3; i++) {
            int y = i == 0 ? 1 : 0;
            int u = i == 1 ? 1 : 0;
            int up = (int) new Step(with(0, 0, 0), y, u, 10).moved[i];
            int down = (int) new Step(with(0, 0, 0), y, u, -10).moved[i];
            Checks.due("where it moves " + i, up, i == 2 ? 648930 : 326060);
            dueBox(i, y, u, 10, -END, up, up, 0);
            dueBox(i, y, u, 10, -END, up + 1, up, 0);
            dueBox(i, y, u, 10, -END, up - 1, up - 1, 1);
            dueBox(i, y, u, 10, 0, 1, 1, 1);
            dueBox(i, y, u, -10, down, END, down, 0);
            dueBox(i, y, u, -10, down - 1, END, down, 0);
            dueBox(i, y, u, -10, down + 1, END, down + 1, 1);
            dueBox(i, y, u, -10, -1, 0, -1, 1);
            dueBox(i, y, u, 10, 0, 0, 0, 1);
        }
    }

    private static void dueBox(int i, int y, int u, int z, int low, int high, int want, int count) {
        SelfTuner x = with(0, 0, 0);
        x.setBox(i, low, high);
        x.sample(y, u, z);
        String where = "in the box from " + low + " to " + high;
        Checks.due("parameter(" + i + ") " + where, x.parameter(i), want);
        Checks.due("count(3) of parameter " + i + " " + where, x.count(3), count);
    }

    private static void step4NearerEnd() {
        Checks.sentence("Step 4: ... to the nearer end if it is outside");
        SelfTuner high = new SelfTuner();
        high.sample(0, 0, 4000);
        Checks.due("4000 * ONE, in the first box", high.parameter(2), END);
        Checks.due("count(3)", high.count(3), 1);
        SelfTuner low = new SelfTuner();
        low.sample(0, 0, -4000);
        Checks.due("-4000 * ONE, in the first box", low.parameter(2), -END);
        Checks.due("count(3)", low.count(3), 1);
        SelfTuner above = new SelfTuner();
        above.setBox(1, END - 1, END);
        above.sample(0, 1, -4000);
        Checks.due("a box of which both ends are above", above.parameter(1), END - 1);
        SelfTuner below = new SelfTuner();
        below.setBox(1, -END, 1 - END);
        below.sample(0, 1, 4000);
        Checks.due("a box of which both ends are below", below.parameter(1), 1 - END);
    }

    private static void step4CountsSamples() {
        Checks.sentence("count: 3 samples at which a parameter was brought into its box (by step 4)");
        for (int boxes = 0; boxes < 8; boxes++) {
            SelfTuner x = with(0, 0, 0);
            for (int i = 0; i < 3; i++) {
                if ((boxes >> i & 1) == 1) {
                    x.setBox(i, 0, 0);
                }
            }
            Checks.due("setBox does not count", x.count(3), 0);
            x.sample(1, 1, 10);
            Checks.due("count(3) for the parameters of " + boxes, x.count(3), boxes == 0 ? 0 : 1);
            x.sample(1, 1, -10);
            Checks.due("count(3) for two samples, parameters of " + boxes, x.count(3), boxes == 0 ? 0 : 2);
        }
        SelfTuner ignored = new SelfTuner();
        ignored.setBox(1, 0, 0);
        ignored.sample(0, 0, 1);
        Checks.due("an ignored sample does not count", ignored.count(3), 0);
    }

    private static void step4EachParameter() {
        Checks.sentence("Step 4: Each parameter i increases: the others, too, when one is brought into its box");
        for (int boxes = 0; boxes < 8; boxes++) {
            SelfTuner x = with(0, 0, 0);
            for (int i = 0; i < 3; i++) {
                if ((boxes >> i & 1) == 1) {
                    x.setBox(i, -5, 5);
                }
            }
            x.sample(1, 1, 10);
            for (int i = 0; i < 3; i++) {
                // k = ONE * FIRST / (64880 + 3 * FIRST) = 21773
                Checks.due("parameter(" + i + ") with the boxes " + boxes, x.parameter(i),
                        (boxes >> i & 1) == 1 ? 5 : 217730);
            }
        }
    }

    private static void step5Rounding() {
        Checks.sentence("Step 5: both divisions are rounded down");
        SelfTuner x = new SelfTuner();
        x.sample(1, -1, 10);
        // g = (FIRST, -FIRST, FIRST), s = 3 * FIRST, k = (21773, -21774, 21773).
        Checks.due("k 1 of -65319.7 / 3", new Step(new SelfTuner(), 1, -1, 10).gain[1], -21774);
        Checks.due("P 0 0", x.covariance(0, 0), (FIRST - 2177300L) * ONE / 64880);
        Checks.due("P 0 1", x.covariance(0, 1), 2177300L * ONE / 64880);
        Checks.due("P 0 2, rounded down below 0", x.covariance(0, 2), -(2177300L * ONE / 64880) - 1);
        Checks.due("P 1 2", x.covariance(1, 2), 2177400L * ONE / 64880);
        Checks.due("P 2 1", x.covariance(2, 1), 2177400L * ONE / 64880);
        long[][] seen = new long[3][3];
        Step next = new Step(x, 3, 7, -900);
        x.sample(3, 7, -900);
        for (int i = 0; i < 9; i++) {
            seen[i / 3][i % 3] = x.covariance(i / 3, i % 3);
            Checks.due("element " + i + " behind the next sample", seen[i / 3][i % 3], next.element[i / 3][i % 3]);
        }
    }

    private static SelfTuner wideDiagonal(int last) {
        SelfTuner x = growing();
        for (int i = 0; i < 7; i++) {
            x.sample(0, 0, i % 2 == 0 ? 5 : -5);
        }
        x.set(0, last);
        x.sample(0, 0, -5);
        return x;
    }

    private static void step5DiagonalAtMost() {
        Checks.sentence("Step 5: on the diagonal, at most 1000 * ONE");
        SelfTuner at = wideDiagonal(50688);
        at.set(0, 56315);
        Checks.due("before its bounds", new Step(at, 0, 0, 5).element[0][0], 65536000);
        at.sample(0, 0, 5);
        Checks.due("P 0 0", at.covariance(0, 0), 65536000);
        Checks.due("P 1 1", at.covariance(1, 1), 65536000);
        SelfTuner above = wideDiagonal(50049);
        above.set(0, 57034);
        Checks.due("before its bounds", new Step(above, 0, 0, 5).element[0][0], 65536001);
        above.sample(0, 0, 5);
        Checks.due("P 0 0", above.covariance(0, 0), 65536000);
        Checks.due("P 1 1", above.covariance(1, 1), 65536000);
        SelfTuner below = wideDiagonal(50688);
        below.set(0, 56316);
        Checks.due("before its bounds", new Step(below, 0, 0, 5).element[0][0], 65534836);
        below.sample(0, 0, 5);
        Checks.due("P 0 0", below.covariance(0, 0), 65534836);
        SelfTuner far = wideDiagonal(50000);
        far.sample(0, 0, 5);
        Checks.due("far above: P 0 0", far.covariance(0, 0), 65536000);
        far.sample(0, 0, -5);
        Checks.due("it stays there", far.covariance(0, 0), 65536000);
    }

    /** P 0 1 grows to the side of the sign. */
    private static SelfTuner wideElement(int sign, int last) {
        SelfTuner x = growing();
        for (int i = 0; i < 10; i++) {
            x.sample(i % 2 == 0 ? 1 : 0, i % 2 == 0 ? -sign : 0, i % 4 < 2 ? 5 : -5);
        }
        x.set(0, last);
        x.sample(1, -sign, 4);
        return x;
    }

    private static void dueElement(SelfTuner x, int l, long before, long want) {
        x.set(0, l);
        Checks.due("before its bounds", new Step(x, 0, 0, 5).element[0][1], before);
        x.sample(0, 0, 5);
        Checks.due("no reset", x.count(2), 0);
        Checks.due("P 0 1", x.covariance(0, 1), want);
        Checks.due("P 1 0", x.covariance(1, 0), want);
    }

    private static void step5ElementAtMost() {
        Checks.sentence("Step 5: beside the diagonal, at most 1000 * ONE");
        dueElement(wideElement(1, 50025), 64232, 65536000, 65536000);
        dueElement(wideElement(1, 51226), 62726, 65536001, 65536000);
        dueElement(wideElement(1, 50899), 63129, 65536002, 65536000);
        dueElement(wideElement(1, 50025), 64233, 65534979, 65534979);
        dueElement(wideElement(1, 50000), 50000, 84233023, 65536000);
    }

    private static void step5ElementAtLeast() {
        Checks.sentence("Step 5: beside the diagonal, at least -(1000 * ONE)");
        dueElement(wideElement(-1, 50613), 63486, -65536000, -65536000);
        dueElement(wideElement(-1, 51308), 62626, -65536002, -65536000);
        dueElement(wideElement(-1, 50613), 63487, -65534968, -65534968);
        dueElement(wideElement(-1, 50000), 50000, -84233366, -65536000);
    }

    private static void dueLeast(int y, int samples, long before, long want) {
        SelfTuner x = new SelfTuner();
        x.set(1, 0);
        for (int i = 0; i < samples; i++) {
            x.sample(y, i % 3 * (y / 3), i % 2 == 0 ? 4000 : -4000);
        }
        int u = samples % 3 * (y / 3);
        int z = samples % 2 == 0 ? 4000 : -4000;
        Checks.due("before its bounds", new Step(x, y, u, z).element[0][0], before);
        x.sample(y, u, z);
        Checks.due("P 0 0", x.covariance(0, 0), want);
        Checks.due("nothing was ignored or reset", x.count(1) + x.count(2), 0);
    }

    private static void step5DiagonalAtLeast() {
        Checks.sentence("Step 5: on the diagonal at least 1");
        dueLeast(522, 10, 2, 2);
        dueLeast(501, 10, 1, 1);
        dueLeast(518, 19, 0, 1);
        dueLeast(579, 15, -1, 1);
        dueLeast(500, 15, -93, 1);
    }

    private static SelfTuner nearlyReset(int forgetting, int samples) {
        SelfTuner x = growing();
        x.set(0, forgetting);
        for (int i = 0; i < samples; i++) {
            x.sample(1, -1, i % 2 == 0 ? 4000 : -4000);
        }
        Checks.due("no reset before the last sample", x.count(2), 0);
        return x;
    }

    private static long diagonalSum(SelfTuner x) {
        return x.covariance(0, 0) + x.covariance(1, 1) + x.covariance(2, 2);
    }

    private static void step6ExactlyTheBound() {
        Checks.sentence("Step 6: If the sum of the diagonal is above 2500 * ONE: it is not, if equal");
        SelfTuner x = nearlyReset(50028, 9);
        x.set(0, 59564);
        Checks.due("the sum before step 6", new Step(x, 1, -1, -4000).diagonalSum, 163840000);
        x.sample(1, -1, -4000);
        Checks.due("the sum", diagonalSum(x), 163840000);
        Checks.due("no reset", x.count(2), 0);
    }

    private static void step6JustAboveTheBound() {
        Checks.sentence("Step 6: If the sum of the diagonal is above 2500 * ONE");
        SelfTuner x = nearlyReset(53216, 11);
        x.set(0, 51808);
        Checks.due("the sum before step 6", new Step(x, 1, -1, 4000).diagonalSum, 163840001);
        x.sample(1, -1, 4000);
        Checks.due("a reset", x.count(2), 1);
        dueFirstMatrix("behind the reset", x);
    }

    private static void step6InitialOne() {
        Checks.sentence("Step 6: P becomes the initial one (a reset)");
        SelfTuner x = nearlyReset(50000, 9);
        x.run(0, 0);
        Step last = new Step(x, 1, -1, -4000);
        Checks.due("far above", last.diagonalSum > 2550L * ONE, true);
        int samples = x.count(0);
        int boxed = x.count(3);
        x.sample(1, -1, -4000);
        dueFirstMatrix("behind the reset", x);
        Checks.due("the other counts go on: 0", x.count(0), samples + 1);
        Checks.due("the other counts go on: 3", x.count(3), boxed + 1);
        Checks.due("the window goes on", x.inWindow(), 8);
        Checks.due("parameter(0) was moved before", x.parameter(0), Math.max(-END, last.moved[0]));
        Checks.due("count(2)", x.count(2), 1);
        for (int i = 0; i < 10; i++) {
            x.sample(1, -1, i % 2 == 0 ? 4000 : -4000);
        }
        Checks.due("P grows again, up to the next reset", x.count(2), 2);
    }
}
