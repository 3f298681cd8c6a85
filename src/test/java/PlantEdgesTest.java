import java.math.BigInteger;

/** The sentences on the plant that name a bound: its output, its noise, and the number s that wraps around. */
public final class PlantEdgesTest {
    public static void main(String[] args) {
        Checks.run(PlantEdgesTest::outputAtMost);
        Checks.run(PlantEdgesTest::outputAtLeast);
        Checks.run(PlantEdgesTest::limitBehindTheNoise);
        Checks.run(PlantEdgesTest::rounding);
        Checks.run(PlantEdgesTest::greatestSums);
        Checks.run(PlantEdgesTest::noNoise);
        Checks.run(PlantEdgesTest::leastNoise);
        Checks.run(PlantEdgesTest::greatestNoise);
        Checks.run(PlantEdgesTest::wrapAround);
        Checks.run(PlantEdgesTest::endsOfTheSeed);
        Checks.run(PlantEdgesTest::sIsKept);
        Checks.run(PlantEdgesTest::outputOfSeed);
        Checks.run(PlantEdgesTest::setPlantKeepsOutput);
        Checks.run(PlantEdgesTest::driveOfNoSteps);
        Checks.run(PlantEdgesTest::driveOfAllSteps);
        Checks.run(PlantEdgesTest::driveWithoutInputLimit);
        Checks.run(PlantEdgesTest::driveTakesSamples);
        Checks.end("PlantEdgesTest");
    }

    private static SelfTuner with(int p, int q, int c, int noise) {
        SelfTuner x = new SelfTuner();
        x.setPlant(p, q, c, noise);
        return x;
    }

    private static void outputAtMost() {
        Checks.sentence("its output ... at most 2000");
        Checks.due("1999", with(0, 1000, 0, 0).drive(1999, 1), 1999);
        Checks.due("2000", with(0, 1000, 0, 0).drive(2000, 1), 2000);
        Checks.due("2000.999", with(0, 1000, 999, 0).drive(2000, 1), 2000);
        Checks.due("2001", with(0, 1000, 1000, 0).drive(2000, 1), 2000);
        Checks.due("6000", with(0, 3000, 0, 0).drive(2000, 1), 2000);
    }

    private static void outputAtLeast() {
        Checks.sentence("its output ... at least -2000");
        Checks.due("-1999", with(0, 1000, 0, 0).drive(-1999, 1), -1999);
        Checks.due("-2000", with(0, 1000, 0, 0).drive(-2000, 1), -2000);
        Checks.due("-2000.001, rounded down to -2001", with(0, 1000, -1, 0).drive(-2000, 1), -2000);
        Checks.due("-6000", with(0, 3000, 0, 0).drive(-2000, 1), -2000);
    }

    private static void limitBehindTheNoise() {
        Checks.sentence("(p * y + q * u + c) / 1000 + n, but at least -2000 and at most 2000");
        // n is 3 behind the first s, with the noise 5, and -5 behind the seed 0.
        Checks.due("1997 + 3", with(0, 1000, 0, 5).drive(1997, 1), 2000);
        Checks.due("1998 + 3", with(0, 1000, 0, 5).drive(1998, 1), 2000);
        Checks.due("-2003 + 3", with(0, 1000, -3000, 5).drive(-2000, 1), -2000);
        Checks.due("-2002 + 3", with(0, 1000, -2000, 5).drive(-2000, 1), -1999);
        SelfTuner low = with(0, 1000, 0, 5);
        low.seed(0, 0);
        Checks.due("-1995 - 5", low.drive(-1995, 1), -2000);
        low.seed(0, 0);
        Checks.due("-1996 - 5", low.drive(-1996, 1), -2000);
        SelfTuner high = with(0, 1000, 3000, 5);
        high.seed(0, 0);
        Checks.due("2003 - 5", high.drive(2000, 1), 1998);
    }

    private static void rounding() {
        Checks.sentence("(p * y + q * u + c) / 1000, rounded down");
        Checks.due("0.999", with(0, 0, 999, 0).drive(0, 1), 0);
        Checks.due("1", with(0, 0, 1000, 0).drive(0, 1), 1);
        Checks.due("-0.001", with(0, 0, -1, 0).drive(0, 1), -1);
        Checks.due("-1", with(0, 0, -1000, 0).drive(0, 1), -1);
        Checks.due("-1.001", with(0, 0, -1001, 0).drive(0, 1), -2);
        Checks.due("the sum is divided: 0.4 + 0.4 + 0.2", with(0, 4, 600, 0).drive(100, 1), 1);
        Checks.due("the sum is divided: -0.5 - 0.5", with(0, -5, -500, 0).drive(100, 1), -1);
        SelfTuner x = with(-1, 0, 0, 0);
        x.seed(1, 1);
        Checks.due("-1 * 1 / 1000", x.drive(0, 1), -1);
        Checks.due("-1 * -1 / 1000", x.drive(0, 1), 0);
    }

    private static void greatestSums() {
        Checks.sentence("p, q, c at their ends, with y and u at theirs");
        SelfTuner x = with(3000, 3000, 3000, 0);
        x.seed(1, 2000);
        Checks.due("12003", x.drive(2000, 1), 2000);
        x.seed(1, -2000);
        Checks.due("-11997", x.drive(-2000, 1), -2000);
        x.seed(1, -2000);
        Checks.due("-6000 + 6000 + 3", x.drive(2000, 1), 3);
        SelfTuner y = with(-3000, -3000, -3000, 0);
        y.seed(1, 2000);
        Checks.due("-12003", y.drive(2000, 1), -2000);
        y.seed(1, 2000);
        Checks.due("-6000 + 6000 - 3", y.drive(-2000, 1), -3);
    }

    private static void noNoise() {
        Checks.sentence("noise, 0: n is 0, and s goes on");
        SelfTuner x = with(0, 0, 0, 0);
        for (int seed = 0; seed < 200; seed++) {
            x.seed(seed, 0);
            Checks.due("output behind the seed " + seed, x.drive(0, 1), 0);
        }
        x.seed(1, 0);
        x.drive(0, 1);
        x.setPlant(0, 0, 0, 5);
        // The second s is 377401575, a 65536th of it 5758.
        Checks.due("the second n", x.drive(0, 1), 5758 % 11 - 5);
    }

    private static void leastNoise() {
        Checks.sentence("n is ((s / 65536) modulo (2 * noise + 1)) - noise: at least -noise");
        int[][] found = {{1, 9}, {1, 11}, {200, 388}, {200, 1250}, {5, 0}, {200, 0}, {1, 0}};
        for (int[] pair : found) {
            SelfTuner x = with(0, 0, 0, pair[0]);
            x.seed(pair[1], 0);
            Checks.due("n behind the seed " + pair[1], x.drive(0, 1), -pair[0]);
        }
    }

    private static void greatestNoise() {
        Checks.sentence("n is ((s / 65536) modulo (2 * noise + 1)) - noise: at most noise");
        int[][] found = {{1, 1}, {1, 2}, {200, 776}, {200, 1279}, {200, 1638}};
        for (int[] pair : found) {
            SelfTuner x = with(0, 0, 0, pair[0]);
            x.seed(pair[1], 0);
            Checks.due("n behind the seed " + pair[1], x.drive(0, 1), pair[0]);
        }
        // All 401 numbers come, and no others.
        boolean[] seen = new boolean[401];
        for (int seed = 0; seed < 50; seed++) {
            SelfTuner x = with(0, 0, 0, 200);
            x.seed(seed, 0);
            for (int i = 0; i < 400; i++) {
                int n = x.drive(0, 1);
                Checks.due("n within -200 to 200", n >= -200 && n <= 200, true);
                seen[Math.max(0, Math.min(400, n + 200))] = true;
            }
        }
        int count = 0;
        for (boolean b : seen) {
            count += b ? 1 : 0;
        }
        Checks.due("different n", count, 401);
    }

    private static void wrapAround() {
        Checks.sentence("s becomes (1103515245 * s + 12345) modulo 2147483648");
        // 1 gives 1103527590, which is below; 2 gives 2207042835, and 59559187 behind the wrap-around.
        dueS(0, 12345);
        dueS(1, 1103527590);
        dueS(2, 59559187);
        dueS(3, 1163074432);
        // The greatest and the least s that a seed leads to.
        dueS(518020, 2147482477);
        dueS(388515, 2208);
        for (int seed : new int[] {0, 1, 2, 777, 518020, 999999}) {
            SelfTuner x = with(0, 0, 0, 200);
            x.seed(seed, 0);
            BigInteger s = BigInteger.valueOf(seed);
            for (int i = 0; i < 500; i++) {
                s = s.multiply(BigInteger.valueOf(1103515245)).add(BigInteger.valueOf(12345));
                s = s.mod(BigInteger.valueOf(2147483648L));
                int n = (int) (s.longValueExact() / 65536 % 401) - 200;
                Checks.due("n of step " + i + " behind the seed " + seed, x.drive(0, 1), n);
            }
        }
    }

    /** The digest is 31 * 31 * 31 * 31 * s and numbers that do not differ. */
    private static void dueS(int seed, long want) {
        SelfTuner x = with(0, 0, 0, 0);
        x.seed(seed, 0);
        x.drive(0, 1);
        SelfTuner zero = with(0, 0, 0, 0);
        zero.seed(0, 0);
        zero.drive(0, 1);
        Checks.due("s behind " + seed, x.digest() - zero.digest(), (want - 12345) * 31 * 31 * 31 * 31);
    }

    private static void endsOfTheSeed() {
        Checks.sentence("seed, 0 to 999999");
        SelfTuner x = with(0, 0, 0, 200);
        x.seed(999999, 0);
        // s becomes 1751684876, a 65536th of it is 26728.
        Checks.due("n behind the seed 999999", x.drive(0, 1), 26728 % 401 - 200);
        x.seed(0, 0);
        Checks.due("n behind the seed 0", x.drive(0, 1), -200);
    }

    private static void sIsKept() {
        Checks.sentence("s belongs to the plant: restart() and sample() leave it alone");
        SelfTuner x = with(0, 0, 0, 200);
        SelfTuner y = with(0, 0, 0, 200);
        for (int i = 0; i < 5; i++) {
            y.restart();
            y.sample(i, i, i);
            y.costOf(5, 5);
            y.control(5, 5);
            Checks.due("n of step " + i, y.drive(0, 1), x.drive(0, 1));
        }
    }

    private static void outputOfSeed() {
        Checks.sentence("seed returns the previous output, at both ends");
        SelfTuner x = new SelfTuner();
        Checks.due("seed(1, 2000)", x.seed(1, 2000), 0);
        Checks.due("seed(1, -2000)", x.seed(1, -2000), 2000);
        Checks.due("output()", x.output(), -2000);
        Checks.dueArgument("seed(1, -2001)", x, () -> x.seed(1, -2001));
        Checks.due("seed(1, 0) behind a refused call", x.seed(1, 0), -2000);
    }

    private static void setPlantKeepsOutput() {
        Checks.sentence("setPlant returns the output of the plant");
        SelfTuner x = new SelfTuner();
        x.seed(1, -2000);
        Checks.due("setPlant(0, 0, 0, 0)", x.setPlant(0, 0, 0, 0), -2000);
        x.seed(1, 2000);
        Checks.due("setPlant(3000, -3000, 3000, 200)", x.setPlant(3000, -3000, 3000, 200), 2000);
        Checks.due("output()", x.output(), 2000);
    }

    private static void driveOfNoSteps() {
        Checks.sentence("drive, steps: 0");
        SelfTuner x = Twins.busy();
        int output = x.output();
        int samples = x.count(0);
        Checks.due("drive(1000, 0) returns the output", x.drive(1000, 0), output);
        Checks.due("count(0)", x.count(0), samples);
        Checks.dueUndoable("drive(1000, 0)", x, () -> x.drive(1000, 0));
    }

    private static void driveOfAllSteps() {
        Checks.sentence("drive, steps: 500");
        SelfTuner x = Twins.busy();
        SelfTuner y = Twins.busy();
        int samples = x.count(0);
        int last = 0;
        for (int i = 0; i < 250; i++) {
            last = y.drive(-77, 2);
        }
        Checks.due("drive(-77, 500)", x.drive(-77, 500), last);
        Checks.due("count(0)", x.count(0), samples + 500);
        Checks.due("the same digest", x.digest(), y.digest());
    }

    private static void driveWithoutInputLimit() {
        Checks.sentence("drive: the plant gets the input u, -2000 to 2000, whatever the input limit is");
        SelfTuner x = with(0, 1000, 0, 0);
        x.set(4, 1);
        x.set(5, 100);
        Checks.due("drive(2000, 1)", x.drive(2000, 1), 2000);
        Checks.due("drive(-2000, 1)", x.drive(-2000, 1), -2000);
        Checks.due("drive(0, 1)", x.drive(0, 1), 0);
    }

    private static void driveTakesSamples() {
        Checks.sentence("drive: the estimator takes the samples, of the output before, u, and the output after");
        SelfTuner x = Twins.busy();
        SelfTuner y = Twins.busy();
        SelfTuner plant = Twins.busy();
        for (int i = 0; i < 40; i++) {
            int u = i % 2 == 0 ? 2000 : -1999;
            int before = plant.output();
            int after = plant.drive(u, 1);
            x.drive(u, 1);
            y.sample(before, u, after);
        }
        for (int i = 0; i < 9; i++) {
            Checks.due("P " + i, x.covariance(i / 3, i % 3), y.covariance(i / 3, i % 3));
            Checks.due("parameter(" + i / 3 + ")", x.parameter(i / 3), y.parameter(i / 3));
            Checks.due("count(" + i % 5 + ")", x.count(i % 5), y.count(i % 5));
        }
        Checks.due("determinant()", x.determinant(), y.determinant());
    }
}
