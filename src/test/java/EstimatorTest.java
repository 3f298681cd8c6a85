/** Promises 8 to 14: samples, restart, parameters, P, counts, predictions and their uncertainty. */
public final class EstimatorTest {
    private static final int END = 20 * 65536;

    public static void main(String[] args) {
        Checks.run(EstimatorTest::promise8Sample);
        Checks.run(EstimatorTest::promise8DeadZone);
        Checks.run(EstimatorTest::promise8DirectionalForgetting);
        Checks.run(EstimatorTest::promise8Boxes);
        Checks.run(EstimatorTest::promise8BoundsOfGains);
        Checks.run(EstimatorTest::promise8BoundsOfP);
        Checks.run(EstimatorTest::promise8Reset);
        Checks.run(EstimatorTest::promise8NoReset);
        Checks.run(EstimatorTest::promise8Wrong);
        Checks.run(EstimatorTest::promise9Restart);
        Checks.run(EstimatorTest::promise10Parameter);
        Checks.run(EstimatorTest::promise11Covariance);
        Checks.run(EstimatorTest::promise12Count);
        Checks.run(EstimatorTest::promise13Predict);
        Checks.run(EstimatorTest::promise14Uncertainty);
        Checks.end("EstimatorTest");
    }

    private static void dueParameters(String when, SelfTuner x, long a, long b, long c) {
        Checks.due("parameter(0) " + when, x.parameter(0), a);
        Checks.due("parameter(1) " + when, x.parameter(1), b);
        Checks.due("parameter(2) " + when, x.parameter(2), c);
    }

    /** g = (0, 65536000, 6553600), s = 661913600, d = 661978480, k = (0, 6488, 648), e = -5 * ONE. */
    private static void promise8Sample() {
        SelfTuner x = new SelfTuner();
        Checks.due("sample(0, 10, 5)", x.sample(0, 10, 5), -5);
        dueParameters("behind it", x, 0, 65536 - 5 * 6488, -5 * 648);
        long[][] want = {{6619863, 0, 0}, {0, 66263, -655360}, {0, -655360, 6554408}};
        for (int i = 0; i < 3; i++) {
            for (int j = 0; j < 3; j++) {
                Checks.due("covariance(" + i + ", " + j + ")", x.covariance(i, j), want[i][j]);
            }
        }
        Checks.dueUndoable("sample(1, 2, 3)", x, () -> x.sample(1, 2, 3));
        Checks.dueUndoable("an ignored sample", x, () -> x.sample(0, 0, 0));
        x.sample(2000, 2000, 4000);
        x.sample(-2000, -2000, -4000);
        Checks.due("samples at the ends are taken", x.count(0), 3);
    }

    private static void promise8DeadZone() {
        SelfTuner x = new SelfTuner();
        x.setBox(2, 1, 1);
        Checks.due("e = 2 * ONE - 1, rounded down", x.sample(0, 0, 2), 1);
        Checks.due("it is ignored", x.count(1), 1);
        Checks.due("e = -2 * ONE - 1, rounded down", x.sample(0, 0, -2), -3);
        Checks.due("it is not ignored", x.count(1), 1);
        SelfTuner y = new SelfTuner();
        y.sample(0, 0, 2);
        y.sample(0, 0, -2);
        Checks.due("|e| = 2 * ONE is ignored", y.count(1), 2);
        dueParameters("stays", y, 0, 65536, 0);
        Checks.due("P stays", y.covariance(0, 0), 6553600);
        Checks.due("an ignored sample is a sample", y.count(0), 2);
        Checks.due("an ignored sample is in the window", y.inWindow(), 2);
        y.set(1, 0);
        y.sample(0, 0, 0);
        Checks.due("no error is ignored without a dead zone", y.count(1), 3);
        y.sample(0, 0, 1);
        Checks.due("an error is not", y.count(1), 3);
    }

    private static void promise8DirectionalForgetting() {
        SelfTuner x = new SelfTuner();
        x.sample(0, 0, 10);
        // s = 6553600, k2 = 64893
        dueParameters("behind 10", x, 0, 65536, 648930);
        Checks.due("P22 behind 10", x.covariance(2, 2), 64950);
        Checks.due("P00 behind 10", x.covariance(0, 0), 6619863);
        Checks.due("s is not below ONE", x.count(4), 0);
        x.sample(0, 0, 20);
        // s = 64950, L = ONE, k2 = 32620, e = 661790
        dueParameters("behind 20", x, 0, 65536, 978330);
        Checks.due("P22 behind 20", x.covariance(2, 2), 32622);
        Checks.due("P00 is not enlarged", x.covariance(0, 0), 6619863);
        Checks.due("s is below ONE", x.count(4), 1);
        SelfTuner at = new SelfTuner();
        at.set(2, 100);
        at.sample(0, 0, 10);
        Checks.due("s at the limit is no directional forgetting", at.count(4), 0);
        at.sample(0, 0, 100);
        Checks.due("s below it is", at.count(4), 1);
        SelfTuner never = new SelfTuner();
        never.set(2, 0);
        never.drive(0, 50);
        never.sample(0, 0, 30);
        never.sample(0, 0, -30);
        never.sample(0, 0, 30);
        Checks.due("limit 0", never.count(4), 0);
        SelfTuner full = new SelfTuner();
        full.set(0, 65536);
        full.sample(0, 0, 10);
        full.sample(0, 0, 30);
        Checks.due("it counts for L = ONE too", full.count(4), 1);
    }

    private static void promise8Boxes() {
        SelfTuner x = new SelfTuner();
        x.setBox(0, -100, 100);
        x.setBox(1, 65436, 65636);
        x.setBox(2, -10, 10);
        x.sample(10, 10, 4000);
        dueParameters("at the high ends", x, 100, 65636, 10);
        Checks.due("one sample, though three parameters", x.count(3), 1);
        SelfTuner low = new SelfTuner();
        low.setBox(0, -100, 100);
        low.sample(1000, 1000, -4000);
        Checks.due("parameter(0) at the low end", low.parameter(0), -100);
        Checks.due("only one parameter", low.count(3), 1);
        SelfTuner end = new SelfTuner();
        end.sample(0, 0, -3000);
        Checks.due("the first box", end.parameter(2), -END);
        end.setBox(0, 0, 0);
        end.sample(0, 0, -3000);
        Checks.due("again", end.count(3), 2);
        end.restart();
        end.sample(0, 0, 3);
        Checks.due("a parameter inside is not counted", end.count(3), 0);
    }

    private static SelfTuner growing() {
        SelfTuner x = new SelfTuner();
        x.set(0, 50000);
        x.set(1, 0);
        x.set(2, 0);
        return x;
    }

    private static void put(SelfTuner x, int parameter, int value) {
        x.setBox(parameter, value, value);
        x.setBox(parameter, -END, END);
    }

    /** Behind these samples P has bent so far that s is 0, and k = (-114221135, -223093, 151093673). */
    private static void promise8BoundsOfGains() {
        SelfTuner x = growing();
        for (int i = 0; i < 8; i++) {
            x.sample(2, 2000, i % 2 == 0 ? -4000 : 4000);
        }
        put(x, 0, 0);
        put(x, 1, 0);
        put(x, 2, -50);
        Checks.due("an error of 50 / ONE", x.sample(2, 2000, 0), 0);
        dueParameters("behind gains at their ends", x, -5000, -171, 4950);
    }

    private static void promise8BoundsOfP() {
        SelfTuner x = growing();
        boolean bounded = true;
        for (int i = 0; i < 40; i++) {
            x.sample(0, 0, i % 2 == 0 ? 5 : -5);
            bounded &= x.covariance(0, 0) <= 65536000 && x.covariance(1, 1) <= 65536000;
        }
        Checks.due("P grows to its bound and no further", bounded, true);
        Checks.due("P00 at its bound", x.covariance(0, 0), 65536000);
        Checks.due("P11 at its bound", x.covariance(1, 1), 65536000);
        Checks.due("P01", x.covariance(0, 1), 0);
        Checks.due("2000 * ONE is no reset", x.count(2), 0);
        SelfTuner small = new SelfTuner();
        long least = Long.MAX_VALUE;
        for (int i = 0; i < 60; i++) {
            small.sample(2000, i % 3 * 1000 - 1000, i % 2 == 0 ? 4000 : -4000);
            for (int j = 0; j < 3; j++) {
                least = Math.min(least, small.covariance(j, j));
            }
        }
        Checks.due("the diagonal goes down to 1", least, 1);
    }

    private static void promise8Reset() {
        SelfTuner x = growing();
        for (int i = 0; i < 9; i++) {
            x.sample(1, 1, i % 2 == 0 ? 4000 : -4000);
        }
        Checks.due("no reset before the tenth sample", x.count(2), 0);
        Checks.due("P00 before", x.covariance(0, 0) > 6553600, true);
        x.sample(1, 1, -4000);
        Checks.due("a reset", x.count(2), 1);
        for (int i = 0; i < 3; i++) {
            for (int j = 0; j < 3; j++) {
                Checks.due("P is as initially", x.covariance(i, j), i == j ? 6553600 : 0);
            }
        }
        Checks.due("the samples go on", x.count(0), 10);
    }

    /** A run that was searched for: the diagonal of P ends at exactly 2500 * ONE. */
    private static void promise8NoReset() {
        SelfTuner x = growing();
        x.set(0, 50028);
        for (int i = 0; i < 9; i++) {
            x.sample(1, -1, i % 2 == 0 ? 4000 : -4000);
        }
        x.set(0, 59564);
        x.sample(1, -1, -4000);
        Checks.due("2500 * ONE", x.covariance(0, 0) + x.covariance(1, 1) + x.covariance(2, 2), 2500L * 65536);
        Checks.due("is no reset", x.count(2), 0);
        x.undo();
        x.set(0, 59563);
        x.sample(1, -1, -4000);
        Checks.due("a little more is one", x.count(2), 1);
    }

    private static void promise8Wrong() {
        SelfTuner x = new SelfTuner();
        Checks.dueArgument("sample(2001, 0, 0)", x, () -> x.sample(2001, 0, 0));
        Checks.dueArgument("sample(-2001, 0, 0)", x, () -> x.sample(-2001, 0, 0));
        Checks.dueArgument("sample(0, 2001, 0)", x, () -> x.sample(0, 2001, 0));
        Checks.dueArgument("sample(0, -2001, 0)", x, () -> x.sample(0, -2001, 0));
        Checks.dueArgument("sample(0, 0, 4001)", x, () -> x.sample(0, 0, 4001));
        Checks.dueArgument("sample(0, 0, -4001)", x, () -> x.sample(0, 0, -4001));
        Checks.dueArgument("sample(MIN, MIN, MIN)", x,
                () -> x.sample(Integer.MIN_VALUE, Integer.MIN_VALUE, Integer.MIN_VALUE));
        Checks.dueState("undo() behind failing calls", x, x::undo);
    }

    private static void promise9Restart() {
        SelfTuner x = new SelfTuner();
        x.set(3, 4);
        x.set(5, 6);
        x.setPlant(900, 400, 10, 3);
        x.setBox(1, 70000, 80000);
        x.setBox(2, -9, -3);
        x.setBox(0, -50, 50);
        x.run(300, 25);
        int output = x.output();
        Checks.due("restart()", x.restart(), 25);
        dueParameters("behind restart()", x, 0, 70000, -3);
        for (int i = 0; i < 5; i++) {
            Checks.due("count(" + i + ") behind restart()", x.count(i), 0);
        }
        for (int i = 0; i < 9; i++) {
            Checks.due("P behind restart()", x.covariance(i / 3, i % 3), i % 4 == 0 ? 6553600 : 0);
        }
        Checks.due("inWindow() behind restart()", x.inWindow(), 0);
        Checks.due("determinant() behind restart()", x.determinant(), 0);
        Checks.due("the output stays", x.output(), output);
        Checks.due("the settings stay: window", x.value(3), 4);
        Checks.due("the settings stay: dither", x.value(5), 6);
        Checks.due("the boxes stay", x.box(2, true), -3);
        Checks.due("restart() once more", x.restart(), 0);
        Checks.dueUndoable("restart() of nothing", x, x::restart);
        x.run(10, 3);
        Checks.dueUndoable("restart()", x, x::restart);
    }

    private static void promise10Parameter() {
        SelfTuner x = new SelfTuner();
        x.setBox(0, 5, 5);
        x.setBox(2, -7, -7);
        dueParameters("of the boxes", x, 5, 65536, -7);
        Checks.dueUnchanged("parameter(0)", x, () -> x.parameter(0));
        Checks.dueIndex("parameter(-1)", x, () -> x.parameter(-1));
        Checks.dueIndex("parameter(3)", x, () -> x.parameter(3));
        Checks.dueIndex("parameter(MAX)", x, () -> x.parameter(Integer.MAX_VALUE));
    }

    private static void promise11Covariance() {
        SelfTuner x = new SelfTuner();
        x.sample(3, 7, 100);
        x.sample(-2, 5, 50);
        Checks.due("P is symmetric: 01", x.covariance(0, 1), x.covariance(1, 0));
        Checks.due("P is symmetric: 02", x.covariance(0, 2), x.covariance(2, 0));
        Checks.due("P is symmetric: 12", x.covariance(1, 2), x.covariance(2, 1));
        Checks.due("its elements differ", x.covariance(0, 1) != x.covariance(0, 2), true);
        Checks.dueUnchanged("covariance(1, 2)", x, () -> x.covariance(1, 2));
        Checks.dueIndex("covariance(3, 0)", x, () -> x.covariance(3, 0));
        Checks.dueIndex("covariance(0, 3)", x, () -> x.covariance(0, 3));
        Checks.dueIndex("covariance(-1, 0)", x, () -> x.covariance(-1, 0));
        Checks.dueIndex("covariance(0, -1)", x, () -> x.covariance(0, -1));
        Checks.dueIndex("covariance(1, -3)", x, () -> x.covariance(1, -3));
    }

    private static void promise12Count() {
        SelfTuner x = new SelfTuner();
        x.sample(0, 0, 1);
        x.sample(0, 0, 4000);
        x.sample(0, 0, -4000);
        Checks.due("samples", x.count(0), 3);
        Checks.due("ignored samples", x.count(1), 1);
        Checks.due("resets", x.count(2), 0);
        Checks.due("parameters brought into boxes", x.count(3), 2);
        Checks.due("directional forgetting", x.count(4), 1);
        Checks.dueUnchanged("count(0)", x, () -> x.count(0));
        Checks.dueArgument("count(-1)", x, () -> x.count(-1));
        Checks.dueArgument("count(5)", x, () -> x.count(5));
        Checks.dueArgument("count(MIN)", x, () -> x.count(Integer.MIN_VALUE));
    }

    private static void promise13Predict() {
        SelfTuner x = new SelfTuner();
        Checks.due("predict(2000, -2000)", x.predict(2000, -2000), -2000);
        x.setBox(0, 32768, 32768);
        x.setBox(2, 16384, 16384);
        Checks.due("1.5 + 10 + 0.25", x.predict(3, 10), 11);
        Checks.due("-1.5 - 10 + 0.25, rounded down", x.predict(-3, -10), -12);
        x.setBox(0, END, END);
        x.setBox(1, END, END);
        Checks.due("the greatest", x.predict(2000, 2000), 80000);
        Checks.due("the smallest", x.predict(-2000, -2000), -80000);
        Checks.dueUnchanged("predict(1, 1)", x, () -> x.predict(1, 1));
        Checks.dueArgument("predict(2001, 0)", x, () -> x.predict(2001, 0));
        Checks.dueArgument("predict(-2001, 0)", x, () -> x.predict(-2001, 0));
        Checks.dueArgument("predict(0, 2001)", x, () -> x.predict(0, 2001));
        Checks.dueArgument("predict(0, -2001)", x, () -> x.predict(0, -2001));
    }

    private static void promise14Uncertainty() {
        SelfTuner x = new SelfTuner();
        Checks.dueDouble("uncertainty(0, 0)", x.uncertainty(0, 0), 100.0);
        Checks.dueDouble("uncertainty(3, -4)", x.uncertainty(3, -4), 2600.0);
        Checks.dueDouble("uncertainty(2000, 2000)", x.uncertainty(2000, 2000), 800000100.0);
        x.sample(0, 10, 5);
        Checks.dueDouble("6554408 / ONE", x.uncertainty(0, 0), 6554408 / 65536.0);
        Checks.dueDouble("(100 * 66263 - 20 * 655360 + 6554408) / ONE", x.uncertainty(0, 10),
                (100 * 66263 - 20 * 655360 + 6554408) / 65536.0);
        SelfTuner bent = new SelfTuner();
        double least = 1;
        for (int i = 0; i < 40; i++) {
            bent.sample(2000, 2000, i % 2 == 0 ? 4000 : -4000);
            long s = 0;
            for (int j = 0; j < 9; j++) {
                s += bent.covariance(j / 3, j % 3) * (j / 3 < 2 ? 2000 : 1) * (j % 3 < 2 ? 2000 : 1);
            }
            least = Math.min(least, s);
            Checks.dueDouble("s, but at least 0, behind sample " + i, bent.uncertainty(2000, 2000),
                    Math.max(0, s) / 65536.0);
        }
        Checks.due("s itself was below 0", least < 0, true);
        Checks.dueUnchanged("uncertainty(1, 1)", x, () -> (long) x.uncertainty(1, 1));
        Checks.dueArgument("uncertainty(2001, 0)", x, () -> (long) x.uncertainty(2001, 0));
        Checks.dueArgument("uncertainty(-2001, 0)", x, () -> (long) x.uncertainty(-2001, 0));
        Checks.dueArgument("uncertainty(0, 2001)", x, () -> (long) x.uncertainty(0, 2001));
        Checks.dueArgument("uncertainty(0, -2001)", x, () -> (long) x.uncertainty(0, -2001));
    }
}
