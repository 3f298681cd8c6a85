/** The sentences of "Excitation" that name a bound: an empty window, a full one, and just exciting enough. */
public final class ExcitationEdgesTest {
    public static void main(String[] args) {
        Checks.run(ExcitationEdgesTest::emptyWindow);
        Checks.run(ExcitationEdgesTest::asManyAsTheSettingTells);
        Checks.run(ExcitationEdgesTest::fewerSamples);
        Checks.run(ExcitationEdgesTest::longerAndShorter);
        Checks.run(ExcitationEdgesTest::sinceTheLastRestart);
        Checks.run(ExcitationEdgesTest::ignoredSamples);
        Checks.run(ExcitationEdgesTest::fullIfAsMany);
        Checks.run(ExcitationEdgesTest::atLeastThousandTimesTheSquare);
        Checks.run(ExcitationEdgesTest::theSquareIsOfTheWindow);
        Checks.run(ExcitationEdgesTest::neverExciting);
        Checks.run(ExcitationEdgesTest::greatestDeterminant);
        Checks.end("ExcitationEdgesTest");
    }

    private static SelfTuner withWindow(int length) {
        SelfTuner x = new SelfTuner();
        x.set(3, length);
        return x;
    }

    private static void emptyWindow() {
        Checks.sentence("The window of no samples");
        for (int length : new int[] {2, 8, 20}) {
            SelfTuner x = withWindow(length);
            Checks.due("inWindow()", x.inWindow(), 0);
            Checks.due("determinant()", x.determinant(), 0);
            Checks.due("exciting()", x.exciting(), false);
        }
    }

    private static void asManyAsTheSettingTells() {
        Checks.sentence("The window consists of the latest samples, as many as the setting 3 tells");
        for (int length = 2; length <= 20; length++) {
            SelfTuner x = withWindow(length);
            // Only the first sample has an input, and only the second an output.
            x.sample(0, 3, 0);
            x.sample(5, 0, 0);
            for (int i = 3; i <= length; i++) {
                x.sample(0, 0, 0);
            }
            Checks.due("inWindow() of " + length, x.inWindow(), length);
            Checks.due("the oldest of " + length + " is in it", x.determinant(), 225);
            x.sample(0, 0, 0);
            Checks.due("inWindow() of " + length + " and one more", x.inWindow(), length);
            Checks.due("the oldest of " + length + " has gone", x.determinant(), 0);
        }
    }

    private static void fewerSamples() {
        Checks.sentence("(of all samples since the last restart, if there are fewer)");
        SelfTuner x = withWindow(20);
        for (int i = 1; i <= 45; i++) {
            x.sample(i, 1, 0);
            Checks.due("inWindow() behind " + i + " samples", x.inWindow(), Math.min(i, 20));
        }
        SelfTuner two = withWindow(2);
        two.sample(7, 0, 0);
        Checks.due("one sample in a window of 2", two.inWindow(), 1);
        Checks.due("its determinant", two.determinant(), 0);
        two.sample(0, 7, 0);
        Checks.due("two samples in a window of 2", two.determinant(), 2401);
    }

    private static void longerAndShorter() {
        Checks.sentence("as many as the setting 3 tells: when it is set, the window has other samples at once");
        SelfTuner x = withWindow(20);
        long[] determinants = new long[21];
        for (int i = 1; i <= 25; i++) {
            x.sample(i * i % 11, i * 7 % 13, 0);
        }
        for (int length = 20; length >= 2; length--) {
            x.set(3, length);
            determinants[length] = x.determinant();
            Checks.due("inWindow() of " + length, x.inWindow(), length);
            Checks.due("determinant() of " + length, determinants[length], latest(25, length));
        }
        for (int length = 2; length <= 20; length++) {
            x.set(3, length);
            Checks.due("determinant() of " + length + " again", x.determinant(), determinants[length]);
        }
    }

    private static long latest(int samples, int length) {
        long a = 0;
        long b = 0;
        long c = 0;
        for (int i = samples - length + 1; i <= samples; i++) {
            long y = i * i % 11;
            long u = i * 7 % 13;
            a += y * y;
            b += u * u;
            c += y * u;
        }
        return a * b - c * c;
    }

    private static void sinceTheLastRestart() {
        Checks.sentence("of all samples since the last restart");
        SelfTuner x = withWindow(4);
        x.sample(500, 0, 0);
        x.sample(0, 500, 0);
        x.sample(500, 500, 0);
        x.sample(500, 500, 0);
        Checks.due("exciting() before", x.exciting(), true);
        x.restart();
        Checks.due("inWindow() behind restart()", x.inWindow(), 0);
        Checks.due("exciting() behind restart()", x.exciting(), false);
        x.sample(500, 0, 0);
        x.sample(0, 500, 0);
        x.sample(0, 500, 0);
        Checks.due("three of four: inWindow()", x.inWindow(), 3);
        Checks.due("three of four: determinant()", x.determinant(), 250000L * 500000);
        Checks.due("three of four: exciting()", x.exciting(), false);
        x.sample(0, 0, 0);
        Checks.due("four of four: exciting()", x.exciting(), true);
    }

    private static void ignoredSamples() {
        Checks.sentence("the regressors of the latest samples: those of ignored ones, too");
        SelfTuner x = withWindow(2);
        x.set(1, 500);
        x.sample(100, 0, 0);
        x.sample(0, 100, 100);
        Checks.due("both were ignored", x.count(1), 2);
        Checks.due("determinant()", x.determinant(), 100000000);
        Checks.due("exciting()", x.exciting(), true);
    }

    private static void fullIfAsMany() {
        Checks.sentence("it is full if there are as many");
        for (int length = 2; length <= 20; length++) {
            SelfTuner x = withWindow(length);
            for (int i = 1; i < length; i++) {
                x.sample(i % 2 * 2000, 2000 - i % 2 * 2000, 0);
                Checks.due("exciting() for " + i + " of " + length, x.exciting(), false);
            }
            x.sample(length % 2 * 2000, 2000 - length % 2 * 2000, 0);
            Checks.due("exciting() for all " + length, x.exciting(), true);
            if (length < 20) {
                x.set(3, length + 1);
                Checks.due("exciting() of a longer window", x.exciting(), false);
                x.set(3, length);
                Checks.due("exciting() of the former one", x.exciting(), true);
            }
        }
    }

    /** One sample with the output 1, and inputs whose squares together are the determinant. */
    private static void dueExciting(int length, long determinant, boolean want, int... inputs) {
        SelfTuner x = withWindow(length);
        x.sample(1, 0, 0);
        for (int i = 1; i < length; i++) {
            x.sample(0, i <= inputs.length ? inputs[i - 1] : 0, 0);
        }
        Checks.due("determinant() of " + length, x.determinant(), determinant);
        Checks.due("exciting() of " + length + " for " + determinant, x.exciting(), want);
    }

    private static void atLeastThousandTimesTheSquare() {
        Checks.sentence("A * B - C * C is at least 1000 times the square of the number of samples in it");
        dueExciting(2, 3969, false, 63);
        dueExciting(2, 4096, true, 64);
        dueExciting(3, 9000, true, 90, 30);
        dueExciting(3, 8978, false, 67, 67);
        dueExciting(4, 16000, true, 120, 40, 0);
        dueExciting(4, 15998, false, 126, 11, 1);
        dueExciting(5, 25000, true, 158, 6, 0, 0);
        dueExciting(5, 24999, false, 158, 5, 3, 1);
        dueExciting(8, 64000, true, 252, 22, 2, 2, 2);
        dueExciting(8, 63999, false, 252, 22, 3, 1, 1);
        dueExciting(20, 400000, true, 632, 24);
        dueExciting(20, 399999, false, 632, 23, 6, 3, 1);
    }

    private static void theSquareIsOfTheWindow() {
        Checks.sentence("... the number of samples in it, not of all samples");
        SelfTuner x = withWindow(2);
        for (int i = 0; i < 30; i++) {
            x.sample(i % 2 * 64, 1 - i % 2, 0);
        }
        Checks.due("determinant()", x.determinant(), 4096);
        Checks.due("exciting()", x.exciting(), true);
    }

    private static void neverExciting() {
        Checks.sentence("A * B - C * C is 0 if all regressors have one direction");
        SelfTuner x = withWindow(20);
        for (int i = 0; i < 20; i++) {
            x.sample(-2000, 2000, 0);
        }
        Checks.due("determinant()", x.determinant(), 0);
        Checks.due("exciting()", x.exciting(), false);
        x.sample(2000, -2000, 0);
        Checks.due("determinant() of the opposite one", x.determinant(), 0);
    }

    private static void greatestDeterminant() {
        Checks.sentence("All intermediate results fit into long: the greatest A * B and C * C");
        SelfTuner x = withWindow(20);
        for (int i = 0; i < 20; i++) {
            x.sample(2000, i < 10 ? 2000 : -2000, 0);
        }
        Checks.due("A * B", x.determinant(), 6400000000000000L);
        Checks.due("exciting()", x.exciting(), true);
        x.sample(2000, 2000, 0);
        x.sample(2000, -2000, 0);
        // Eleven inputs are -2000 and nine 2000: C is -8000000.
        Checks.due("A * B - C * C", x.determinant(), 6400000000000000L - 64000000000000L);
    }
}
