/** The sentences on settings, boxes, restart() and the numbers that are asked for, at their bounds. */
public final class SettingsEdgesTest {
    private static final int ONE = 65536;
    private static final int END = 20 * ONE;

    public static void main(String[] args) {
        Checks.run(SettingsEdgesTest::setReturnsPrevious);
        Checks.run(SettingsEdgesTest::setBoxOutside);
        Checks.run(SettingsEdgesTest::setBoxAtAnEnd);
        Checks.run(SettingsEdgesTest::firstBoxes);
        Checks.run(SettingsEdgesTest::restartBringsIntoBoxes);
        Checks.run(SettingsEdgesTest::restartBeginsAnew);
        Checks.run(SettingsEdgesTest::restartOfNothing);
        Checks.run(SettingsEdgesTest::predictRounding);
        Checks.run(SettingsEdgesTest::predictEnds);
        Checks.run(SettingsEdgesTest::uncertaintyEnds);
        Checks.run(SettingsEdgesTest::biasEnds);
        Checks.run(SettingsEdgesTest::biasRounding);
        Checks.run(SettingsEdgesTest::countsSinceRestart);
        Checks.end("SettingsEdgesTest");
    }

    private static void put(SelfTuner x, int parameter, int value) {
        x.setBox(parameter, value, value);
        x.setBox(parameter, -END, END);
    }

    private static void setReturnsPrevious() {
        Checks.sentence("set returns the previous value, at both ends of the range");
        for (int i = 0; i < 7; i++) {
            int what = i;
            SelfTuner x = new SelfTuner();
            int first = x.value(what);
            int least = Model.RANGES[what][0];
            int most = Model.RANGES[what][1];
            Checks.due("set(" + what + ", " + least + ")", x.set(what, least), first);
            Checks.due("set(" + what + ", " + most + ")", x.set(what, most), least);
            Checks.due("set(" + what + ", " + most + ") again", x.set(what, most), most);
            Checks.dueArgument("set(" + what + ", " + (most + 1) + ")", x, () -> x.set(what, most + 1));
            Checks.due("value(" + what + ") behind a refused call", x.value(what), most);
            Checks.due("set(" + what + ", " + least + ") behind it", x.set(what, least), most);
        }
    }

    private static void setBoxOutside() {
        Checks.sentence("setBox returns 1 if the parameter was outside of the new box; it is brought into it");
        for (int i = 0; i < 3; i++) {
            SelfTuner x = new SelfTuner();
            put(x, i, 100);
            Checks.due("one below the box", x.setBox(i, 101, 200), 1);
            Checks.due("parameter(" + i + ")", x.parameter(i), 101);
            put(x, i, 100);
            Checks.due("one above the box", x.setBox(i, -200, 99), 1);
            Checks.due("parameter(" + i + ")", x.parameter(i), 99);
            Checks.due("from above to one end of the range", x.setBox(i, -END, -END), 1);
            Checks.due("parameter(" + i + ")", x.parameter(i), -END);
            Checks.due("and to the other", x.setBox(i, END, END), 1);
            Checks.due("parameter(" + i + ")", x.parameter(i), END);
            Checks.due("the others stay", x.parameter((i + 1) % 3), (i + 1) % 3 == 1 ? ONE : 0);
        }
    }

    private static void setBoxAtAnEnd() {
        Checks.sentence("setBox returns otherwise 0: at an end the parameter is not outside");
        for (int i = 0; i < 3; i++) {
            SelfTuner x = new SelfTuner();
            put(x, i, 100);
            Checks.due("at the low end", x.setBox(i, 100, 200), 0);
            Checks.due("at the high end", x.setBox(i, -200, 100), 0);
            Checks.due("at both", x.setBox(i, 100, 100), 0);
            Checks.due("inside", x.setBox(i, 99, 101), 0);
            Checks.due("parameter(" + i + ")", x.parameter(i), 100);
            Checks.due("box(" + i + ", false)", x.box(i, false), 99);
            Checks.due("box(" + i + ", true)", x.box(i, true), 101);
        }
    }

    private static void firstBoxes() {
        Checks.sentence("The box of each parameter, from -(20 * ONE) to 20 * ONE, initially these");
        SelfTuner x = new SelfTuner();
        for (int i = 0; i < 3; i++) {
            Checks.due("box(" + i + ", false)", x.box(i, false), -1310720);
            Checks.due("box(" + i + ", true)", x.box(i, true), 1310720);
            Checks.due("set to what it is", x.setBox(i, -1310720, 1310720), 0);
        }
    }

    private static void restartBringsIntoBoxes() {
        Checks.sentence("restart: the parameters as initially, brought into their boxes");
        int[] first = {0, ONE, 0};
        for (int i = 0; i < 3; i++) {
            int f = first[i];
            dueBegin(i, f, END, f);
            dueBegin(i, f + 1, END, f + 1);
            dueBegin(i, -END, f, f);
            dueBegin(i, -END, f - 1, f - 1);
            dueBegin(i, f, f, f);
            dueBegin(i, END, END, END);
            dueBegin(i, -END, -END, -END);
        }
    }

    private static void dueBegin(int i, int low, int high, int want) {
        SelfTuner x = new SelfTuner();
        x.sample(3, 5, 7);
        x.setBox(i, low, high);
        x.restart();
        Checks.due("parameter(" + i + ") behind restart(), box from " + low + " to " + high, x.parameter(i), want);
        Checks.due("restart() counts no sample with a box", x.count(3), 0);
        Checks.due("the low end stays", x.box(i, false), low);
        Checks.due("the high end stays", x.box(i, true), high);
    }

    private static void restartBeginsAnew() {
        Checks.sentence("restart: parameters, P and window as initially, no samples counted");
        SelfTuner x = Twins.busy();
        for (int i = 0; i < 3; i++) {
            x.setBox(i, -END, END);
        }
        int samples = x.count(0);
        Checks.due("restart()", x.restart(), samples);
        SelfTuner fresh = new SelfTuner();
        for (int i = 0; i < 9; i++) {
            Checks.due("P " + i, x.covariance(i / 3, i % 3), fresh.covariance(i / 3, i % 3));
            Checks.due("parameter(" + i / 3 + ")", x.parameter(i / 3), fresh.parameter(i / 3));
        }
        Checks.due("inWindow()", x.inWindow(), 0);
        Checks.due("determinant()", x.determinant(), 0);
        x.set(3, 20);
        Checks.due("no older sample comes back", x.inWindow(), 0);
        x.sample(1, 1, 1);
        Checks.due("the first of the new samples", x.inWindow(), 1);
    }

    private static void restartOfNothing() {
        Checks.sentence("restart returns the number of samples that there were: none");
        SelfTuner x = new SelfTuner();
        Checks.due("restart() of a new object", x.restart(), 0);
        Checks.due("undo() of it", x.undo(), 0);
        Twins.dueSame("restart() and undo()", () -> {
            SelfTuner y = new SelfTuner();
            y.restart();
            y.undo();
            return y;
        }, SelfTuner::new);
        x.sample(0, 0, 0);
        Checks.due("restart() behind one sample", x.restart(), 1);
        Checks.due("restart() once more", x.restart(), 0);
    }

    private static void predictRounding() {
        Checks.sentence("predict: (the sum of parameter i * f i) / ONE, rounded down");
        SelfTuner x = new SelfTuner();
        put(x, 1, 0);
        int[] sums = {0, 1, ONE - 1, ONE, -1, -ONE, -ONE - 1};
        int[] want = {0, 0, 0, 1, -1, -1, -2};
        for (int i = 0; i < sums.length; i++) {
            put(x, 2, sums[i]);
            Checks.due("predict(0, 0) for the sum " + sums[i], x.predict(0, 0), want[i]);
        }
    }

    private static void predictEnds() {
        Checks.sentence("predict, at the ends of parameters and arguments");
        SelfTuner x = new SelfTuner();
        put(x, 0, END);
        put(x, 1, END);
        put(x, 2, END);
        Checks.due("predict(2000, 2000)", x.predict(2000, 2000), 80020);
        Checks.due("predict(-2000, -2000)", x.predict(-2000, -2000), -79980);
        put(x, 2, -END);
        Checks.due("predict(-2000, -2000) of the least", x.predict(-2000, -2000), -80020);
        put(x, 0, -END);
        Checks.due("predict(-2000, 2000)", x.predict(-2000, 2000), 79980);
    }

    private static void uncertaintyEnds() {
        Checks.sentence("uncertainty, at the ends of P and arguments");
        SelfTuner x = new SelfTuner();
        x.set(0, 50000);
        x.set(1, 0);
        x.set(2, 0);
        Checks.dueDouble("of the first P", x.uncertainty(-2000, 2000), 800000100.0);
        for (int i = 0; i < 14; i++) {
            x.sample(i % 2 == 0 ? 1 : 0, i % 2 == 0 ? -1 : 0, i % 4 < 2 ? 5 : -5);
        }
        Checks.due("P 0 0", x.covariance(0, 0), 65536000);
        Checks.due("P 0 1", x.covariance(0, 1), 65536000);
        Checks.due("P 1 1", x.covariance(1, 1), 65536000);
        long s = 4 * 65536000L * 4000000 + 4000 * (x.covariance(0, 2) + x.covariance(1, 2)) + x.covariance(2, 2);
        Checks.due("s is about 16 * 10 ^ 9 * ONE", s / ONE / 1000000000, 16);
        Checks.dueDouble("of the greatest P", x.uncertainty(2000, 2000), s / 65536.0);
    }

    private static void biasEnds() {
        Checks.sentence("bias: parameter - (ONE * that number) / 1000, at the ends of both");
        SelfTuner x = new SelfTuner();
        x.setPlant(-3000, -3000, -3000, 0);
        for (int i = 0; i < 3; i++) {
            put(x, i, END);
            Checks.due("bias(" + i + ") of the greatest", x.bias(i), 23 * ONE);
        }
        x.setPlant(3000, 3000, 3000, 0);
        for (int i = 0; i < 3; i++) {
            put(x, i, -END);
            Checks.due("bias(" + i + ") of the least", x.bias(i), -23 * ONE);
        }
    }

    private static void biasRounding() {
        Checks.sentence("bias: the division is rounded down, and not the difference");
        SelfTuner x = new SelfTuner();
        put(x, 0, 0);
        put(x, 1, 0);
        x.setPlant(1, -1, 500, 0);
        Checks.due("0 - 65", x.bias(0), -65);
        Checks.due("0 + 66", x.bias(1), 66);
        Checks.due("0 - 32768", x.bias(2), -32768);
        x.setPlant(0, 125, -125, 0);
        Checks.due("0 - 0", x.bias(0), 0);
        Checks.due("0 - 8192", x.bias(1), -8192);
        Checks.due("0 + 8192", x.bias(2), 8192);
    }

    private static void countsSinceRestart() {
        Checks.sentence("count returns that number, since the last restart");
        SelfTuner x = new SelfTuner();
        x.set(0, 50000);
        x.set(1, 0);
        x.set(2, 0);
        for (int i = 0; i < 10; i++) {
            x.sample(1, 1, i % 2 == 0 ? 4000 : -4000);
        }
        x.set(1, 500);
        x.sample(0, 0, 0);
        x.set(2, 100);
        x.set(1, 0);
        x.sample(0, 0, 4000);
        x.sample(0, 0, 4000);
        for (int what = 0; what < 5; what++) {
            Checks.due("count(" + what + ") is not 0", x.count(what) > 0, true);
        }
        x.restart();
        for (int what = 0; what < 5; what++) {
            Checks.due("count(" + what + ") behind restart()", x.count(what), 0);
        }
        x.set(1, 2);
        x.sample(0, 0, 0);
        Checks.due("counting begins anew: count(0)", x.count(0), 1);
        Checks.due("counting begins anew: count(1)", x.count(1), 1);
    }
}
