/** Promises 29 and 30: saved states, and the hash of the state. */
public final class UndoAndDigestTest {
    public static void main(String[] args) {
        Checks.run(UndoAndDigestTest::promise29Undo);
        Checks.run(UndoAndDigestTest::promise29FourStates);
        Checks.run(UndoAndDigestTest::promise29Everything);
        Checks.run(UndoAndDigestTest::promise29FailingCalls);
        Checks.run(UndoAndDigestTest::promise30Digest);
        Checks.run(UndoAndDigestTest::promise30EachValue);
        Checks.end("UndoAndDigestTest");
    }

    private static void promise29Undo() {
        SelfTuner x = new SelfTuner();
        Checks.dueState("undo() of nothing", x, x::undo);
        x.set(1, 7);
        x.set(1, 8);
        Checks.due("undo()", x.undo(), 1);
        Checks.due("value(1)", x.value(1), 7);
        x.set(1, 9);
        Checks.due("undo() of the new one", x.undo(), 1);
        Checks.due("value(1) again", x.value(1), 7);
        Checks.due("undo() of the first", x.undo(), 0);
        Checks.due("value(1) as initially", x.value(1), 2);
        Checks.dueState("undo() of no more", x, x::undo);
    }

    private static void promise29FourStates() {
        SelfTuner x = new SelfTuner();
        for (int i = 10; i <= 17; i++) {
            x.set(1, i);
        }
        for (int i = 3; i >= 0; i--) {
            Checks.due("undo() of eight", x.undo(), i);
            Checks.due("value(1)", x.value(1), 13 + i);
        }
        Checks.dueState("only four are saved", x, x::undo);
        x.set(1, 20);
        Checks.due("saving goes on", x.undo(), 0);
        Checks.due("value(1) behind it", x.value(1), 13);
    }

    private static void promise29Everything() {
        SelfTuner x = new SelfTuner();
        x.setPlant(900, 400, 20, 10);
        x.setBox(0, -70000, 70000);
        x.run(120, 30);
        x.set(3, 12);
        long[] before = all(x);
        Checks.write(x, "1,2,3;");
        x.set(6, 5);
        x.setBox(1, -10, 10);
        x.restart();
        x.run(40, 200);
        for (int i = 0; i < 4; i++) {
            x.undo();
        }
        long[] after = all(x);
        for (int i = 0; i < before.length; i++) {
            Checks.due("value " + i + " of the state behind undo()", after[i], before[i]);
        }
        Checks.due("the text is no part of it", x.clearText(), 6);
        x.set(3, 20);
        Checks.due("the older samples of the window too", x.inWindow(), 20);
    }

    private static long[] all(SelfTuner x) {
        long[] v = new long[40];
        for (int i = 0; i < 9; i++) {
            v[i] = x.covariance(i / 3, i % 3);
            v[9 + i / 3] = x.parameter(i / 3);
            v[12 + i / 3] = x.box(i / 3, true);
            v[15 + i / 3] = x.box(i / 3, false);
            v[18 + i / 3] = x.bias(i / 3);
            v[21 + i % 7] = x.value(i % 7);
            v[28 + i % 5] = x.count(i % 5);
        }
        v[33] = x.output();
        v[34] = x.inWindow();
        v[35] = x.determinant();
        // Noise and s show in what the next steps would be.
        v[36] = x.costOf(33, 20);
        v[37] = x.costOf(-33, 3);
        return v;
    }

    private static void promise29FailingCalls() {
        SelfTuner x = new SelfTuner();
        x.set(1, 7);
        Checks.dueArgument("set(1, 501)", x, () -> x.set(1, 501));
        Checks.dueIndex("setBox(3, 0, 0)", x, () -> x.setBox(3, 0, 0));
        Checks.dueArgument("run(0, 501)", x, () -> x.run(0, 501));
        x.append(49);
        x.replay();
        x.control(0, 0);
        x.settling(0, 500);
        x.clearText();
        Checks.due("they save nothing: undo()", x.undo(), 0);
        Checks.due("value(1)", x.value(1), 2);
    }

    private static long fold(long... values) {
        long h = 2971;
        for (long v : values) {
            h = 31 * h + v;
        }
        return h;
    }

    private static void promise30Digest() {
        int e = 1310720;
        long p = 6553600;
        SelfTuner x = new SelfTuner();
        Checks.due("digest() of a new object", x.digest(), fold(0, 64880, 2, 1, 8, 500, 0, 3277,
                -e, e, 0, -e, e, 65536, -e, e, 0, p, 0, 0, 0, p, 0, 0, 0, p, 0, 0, 0, 0, 0,
                800, 500, 0, 0, 1, 0, 0, 0, 0));
        Checks.dueUnchanged("digest()", x, x::digest);
        x.append(49);
        x.setPlant(0, 0, -1000, 5);
        x.drive(30, 1);
        // The output is -1 + 3, the prediction was 30.
        Checks.due("output()", x.output(), 2);
        Checks.due("digest() behind a step", x.digest(), fold(1, 64880, 2, 1, 8, 500, 0, 3277,
                -e, e, x.parameter(0), -e, e, x.parameter(1), -e, e, x.parameter(2),
                x.covariance(0, 0), x.covariance(0, 1), x.covariance(0, 2),
                x.covariance(1, 0), x.covariance(1, 1), x.covariance(1, 2),
                x.covariance(2, 0), x.covariance(2, 1), x.covariance(2, 2),
                1, 0, 0, 0, 0, 0, 0, -1000, 5, 1103527590, 2, 1, 0, 2));
    }

    /** Each value has its place, shown by an object in which only it differs. */
    private static void promise30EachValue() {
        SelfTuner x = new SelfTuner();
        long first = x.digest();
        long saved = 1;
        // 40 values in all; the factor of the value with n others behind it is 31 to the power of n.
        x.append(50);
        Checks.due("the length of the text", x.digest() - first, power(39));
        x.clearText();
        for (int i = 0; i < 7; i++) {
            int before = x.set(i, x.value(i) + 1);
            Checks.due("value(" + i + ")", x.digest() - first, power(38 - i) + saved);
            x.undo();
            Checks.due("value(" + i + ") again", x.value(i), before);
        }
        for (int i = 0; i < 3; i++) {
            x.setBox(i, -1310719, 1310718);
            Checks.due("box " + i, x.digest() - first, power(31 - 3 * i) - 2 * power(30 - 3 * i) + saved);
            x.undo();
        }
        x.setPlant(801, 502, 3, 4);
        Checks.due("p, q, c and the noise", x.digest() - first,
                power(8) + 2 * power(7) + 3 * power(6) + 4 * power(5) + saved);
        x.undo();
        x.seed(3, 5);
        Checks.due("s and the output", x.digest() - first, 2 * power(4) + 5 * power(3) + saved);
        x.undo();
        x.sample(4, 4, 4);
        x.sample(2, -2, -2);
        Checks.due("samples in the window", x.digest() - first,
                2 * power(13) + 2 * power(12) + 2 * power(2) + (20 * 20 - 12 * 12) * power(1) + 2);
    }

    private static long power(int n) {
        long value = 1;
        for (int i = 0; i < n; i++) {
            value *= 31;
        }
        return value;
    }
}
