/**
 * The numbers of one step of the estimator, reckoned from what an object shows before it takes the sample:
 * each bounded number as it is before it is brought to its bounds, so that a test can tell which side it is on.
 */
final class Step {
    private static final long ONE = 65536;

    final long error;
    final long s;
    final long forgetting;
    final long[] g = new long[3];
    final long[] gain = new long[3];
    final long[] moved = new long[3];
    final long[][] element = new long[3][3];
    final long diagonalSum;

    Step(SelfTuner x, int y, int u, int z) {
        long[] f = {y, u, 1};
        long e = ONE * z;
        long sum = 0;
        for (int i = 0; i < 3; i++) {
            e -= x.parameter(i) * f[i];
            for (int j = 0; j < 3; j++) {
                g[i] += x.covariance(i, j) * f[j];
            }
            sum += f[i] * g[i];
        }
        error = e;
        s = sum;
        long atLeastNothing = Math.max(s, 0);
        forgetting = atLeastNothing < ONE * x.value(2) ? ONE : x.value(0);
        long[] k = new long[3];
        for (int i = 0; i < 3; i++) {
            gain[i] = Math.floorDiv(ONE * g[i], forgetting + atLeastNothing);
            k[i] = Math.min(100 * ONE, Math.max(-100 * ONE, gain[i]));
            moved[i] = x.parameter(i) + Math.floorDiv(k[i] * error, ONE);
        }
        long diagonal = 0;
        for (int i = 0; i < 3; i++) {
            for (int j = i; j < 3; j++) {
                long less = x.covariance(i, j) - Math.floorDiv(k[i] * g[j], ONE);
                element[i][j] = Math.floorDiv(less * ONE, forgetting);
                element[j][i] = element[i][j];
            }
            diagonal += Math.min(1000 * ONE, Math.max(1, element[i][i]));
        }
        diagonalSum = diagonal;
    }
}
