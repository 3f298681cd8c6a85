/**
 * The document ../shared/DOC.md promises what each public method does, in the same order, so the comments
 * here do not tell it again.
 */
public final class SelfTuner {
    public static final int NONE = -1;

    private static final int ONE = 65536;

    private static final int FORGETTING = 0;
    private static final int DEAD_ZONE = 1;
    private static final int EXCITATION_LIMIT = 2;
    private static final int WINDOW = 3;
    private static final int INPUT_LIMIT = 4;
    private static final int DITHER = 5;
    private static final int SMALLEST_GAIN = 6;
    private static final int SETTINGS = 7;
    private static final int[] LEAST_SETTINGS = {50000, 0, 0, 2, 1, 0, 1};
    private static final int[] MOST_SETTINGS = {65536, 500, 100, 20, 2000, 100, 65536};

    private static final int SAMPLES = 0;
    private static final int IGNORED = 1;
    private static final int RESETS = 2;
    private static final int BOXED = 3;
    private static final int DIRECTIONAL = 4;
    private static final int COUNTS = 5;

    private static final int PARAMETERS = 3;
    private static final int MOST_BOX = 20 * ONE;
    private static final int MOST_WINDOW = 20;
    private static final int MOST_SIGNAL = 2000;
    private static final int MOST_SAMPLE_OUTPUT = 4000;
    private static final int MOST_PLANT_NUMBER = 3000;
    private static final int MOST_NOISE = 200;
    private static final int MOST_SEED = 999999;
    private static final int MOST_STEPS = 500;
    private static final int MOST_TOLERANCE = 500;
    private static final int MOST_DITHER_STEPS = 50;
    private static final int MOST_DITHER = 100;
    private static final int STEPS_TO_SETTLE = 5;
    private static final int MOST_TEXT = 120;
    private static final int MOST_BYTE = 127;
    private static final int MOST_SAVED = 4;

    private final State state = new State();
    private final State trial = new State();
    private final State[] saved = new State[MOST_SAVED];
    private int savedStates = 0;
    private final SampleText text = new SampleText();

    public SelfTuner() {
        for (int i = 0; i < MOST_SAVED; i++) {
            saved[i] = new State();
        }
    }

    // ---- settings

    public int set(int what, int value) throws IllegalArgumentException {
        demandRange(what, 0, SETTINGS - 1);
        demandRange(value, LEAST_SETTINGS[what], MOST_SETTINGS[what]);
        saveState();
        int previous = state.settings[what];
        state.settings[what] = value;
        return previous;
    }

    public int value(int what) throws IllegalArgumentException {
        demandRange(what, 0, SETTINGS - 1);
        return state.settings[what];
    }

    public int setBox(int parameter, int low, int high)
            throws IndexOutOfBoundsException, IllegalArgumentException {
        demandParameter(parameter);
        demandRange(low, -MOST_BOX, MOST_BOX);
        demandRange(high, low, MOST_BOX);
        saveState();
        state.estimator.low[parameter] = low;
        state.estimator.high[parameter] = high;
        return state.estimator.bringIntoBox(parameter, state.estimator.parameters[parameter]) ? 1 : 0;
    }

    public int box(int parameter, boolean high) throws IndexOutOfBoundsException {
        demandParameter(parameter);
        return high ? state.estimator.high[parameter] : state.estimator.low[parameter];
    }

    public int setPlant(int p, int q, int c, int noise) throws IllegalArgumentException {
        demandRange(p, -MOST_PLANT_NUMBER, MOST_PLANT_NUMBER);
        demandRange(q, -MOST_PLANT_NUMBER, MOST_PLANT_NUMBER);
        demandRange(c, -MOST_PLANT_NUMBER, MOST_PLANT_NUMBER);
        demandRange(noise, 0, MOST_NOISE);
        saveState();
        Plant plant = state.plant;
        plant.numbers[0] = p;
        plant.numbers[1] = q;
        plant.numbers[2] = c;
        plant.noise = noise;
        return plant.output;
    }

    public int seed(int seed, int output) throws IllegalArgumentException {
        demandRange(seed, 0, MOST_SEED);
        demandRange(output, -MOST_SIGNAL, MOST_SIGNAL);
        saveState();
        int previous = state.plant.output;
        state.plant.random = seed;
        state.plant.output = output;
        return previous;
    }

    // ---- estimator

    public long sample(int y, int u, int z) throws IllegalArgumentException {
        demandSignal(y);
        demandSignal(u);
        demandRange(z, -MOST_SAMPLE_OUTPUT, MOST_SAMPLE_OUTPUT);
        saveState();
        return divideDown(state.estimator.take(state.settings, y, u, z), ONE);
    }

    public int restart() {
        saveState();
        int samples = state.estimator.counts[SAMPLES];
        state.estimator.begin();
        return samples;
    }

    public int parameter(int parameter) throws IndexOutOfBoundsException {
        demandParameter(parameter);
        return state.estimator.parameters[parameter];
    }

    public long covariance(int i, int j) throws IndexOutOfBoundsException {
        demandParameter(i);
        demandParameter(j);
        return state.estimator.matrix[PARAMETERS * i + j];
    }

    public int count(int what) throws IllegalArgumentException {
        demandRange(what, 0, COUNTS - 1);
        return state.estimator.counts[what];
    }

    public long predict(int y, int u) throws IllegalArgumentException {
        demandSignal(y);
        demandSignal(u);
        return divideDown(state.estimator.weightedSum(y, u), ONE);
    }

    public double uncertainty(int y, int u) throws IllegalArgumentException {
        demandSignal(y);
        demandSignal(u);
        return (double) state.estimator.spread(y, u) / 65536.0;
    }

    // ---- excitation

    public int inWindow() {
        return state.estimator.window.size(state.settings[WINDOW]);
    }

    public long determinant() {
        return state.estimator.window.excitation(state.settings[WINDOW]);
    }

    public boolean exciting() {
        long samples = inWindow();
        return samples == state.settings[WINDOW] && determinant() >= 1000 * samples * samples;
    }

    // ---- control

    public int control(int r, int y) throws IllegalArgumentException {
        demandSignal(r);
        demandSignal(y);
        return state.inputFor(r, y);
    }

    public int run(int r, int steps) throws IllegalArgumentException {
        demandSignal(r);
        demandRange(steps, 0, MOST_STEPS);
        saveState();
        for (int i = 0; i < steps; i++) {
            state.step(state.inputFor(r, state.plant.output));
        }
        return state.plant.output;
    }

    public int drive(int u, int steps) throws IllegalArgumentException {
        demandSignal(u);
        demandRange(steps, 0, MOST_STEPS);
        saveState();
        for (int i = 0; i < steps; i++) {
            state.step(u);
        }
        return state.plant.output;
    }

    public int output() {
        return state.plant.output;
    }

    public int bias(int parameter) throws IndexOutOfBoundsException {
        demandParameter(parameter);
        long number = divideDown((long) ONE * state.plant.numbers[parameter], 1000);
        return (int) (state.estimator.parameters[parameter] - number);
    }

    // ---- what if

    public long costOf(int r, int steps) throws IllegalArgumentException {
        demandSignal(r);
        demandRange(steps, 0, MOST_STEPS);
        trial.copyFrom(state);
        return trial.costOfSteps(r, steps);
    }

    public int settling(int r, int tolerance) throws IllegalArgumentException {
        demandSignal(r);
        demandRange(tolerance, 0, MOST_TOLERANCE);
        trial.copyFrom(state);
        int inARow = 0;
        for (int steps = 1; steps <= MOST_STEPS; steps++) {
            trial.step(trial.inputFor(r, trial.plant.output));
            inARow = Math.abs(r - trial.plant.output) <= tolerance ? inARow + 1 : 0;
            if (inARow == STEPS_TO_SETTLE) {
                return steps;
            }
        }
        return NONE;
    }

    public int bestDither(int r, int steps, int most) throws IllegalArgumentException {
        demandSignal(r);
        demandRange(steps, 1, MOST_DITHER_STEPS);
        demandRange(most, 0, MOST_DITHER);
        int best = NONE;
        long smallest = 0;
        for (int dither = 0; dither <= most; dither++) {
            trial.copyFrom(state);
            trial.settings[DITHER] = dither;
            long cost = trial.costOfSteps(r, steps);
            if (best == NONE || cost < smallest) {
                smallest = cost;
                best = dither;
            }
        }
        return best;
    }

    // ---- text

    public int append(int value) throws IllegalArgumentException, IllegalStateException {
        demandRange(value, 0, MOST_BYTE);
        if (!text.addIfRoom(value)) {
            throw new IllegalStateException("the sample text is full");
        }
        return text.length;
    }

    public int clearText() {
        int length = text.length;
        text.length = 0;
        return length;
    }

    public int replay() {
        int error = text.read();
        if (error != NONE) {
            return -10 - error;
        }
        int outside = text.firstOutOfRange();
        if (outside != NONE) {
            return -1000 - outside;
        }
        saveState();
        for (int i = 0; i < text.samples; i++) {
            state.estimator.take(state.settings, text.number(i, 0), text.number(i, 1), text.number(i, 2));
        }
        return text.samples;
    }

    // ---- state

    public int undo() throws IllegalStateException {
        if (savedStates <= 0) {
            throw new IllegalStateException("there is no saved state");
        }
        savedStates--;
        state.copyFrom(saved[savedStates]);
        return savedStates;
    }

    public long digest() {
        long h = mixed(2971, text.length);
        h = state.mixedSettings(h);
        h = state.estimator.mixedInto(h);
        h = state.plant.mixedInto(h);
        h = mixed(h, inWindow());
        h = mixed(h, determinant());
        return mixed(h, savedStates);
    }

    private void saveState() {
        if (savedStates >= MOST_SAVED) {
            dropOldestState();
        }
        saved[savedStates].copyFrom(state);
        savedStates++;
    }

    /** The object of the oldest state is kept for the next one, so that no call makes a new one. */
    private void dropOldestState() {
        State oldest = saved[0];
        for (int i = 1; i < MOST_SAVED; i++) {
            saved[i - 1] = saved[i];
        }
        saved[MOST_SAVED - 1] = oldest;
        savedStates = MOST_SAVED - 1;
    }

    private static void demandParameter(int parameter) {
        if (parameter < 0 || parameter >= PARAMETERS) {
            throw new IndexOutOfBoundsException("there is no such parameter");
        }
    }

    private static void demandSignal(int value) {
        demandRange(value, -MOST_SIGNAL, MOST_SIGNAL);
    }

    private static void demandRange(int value, int least, int most) {
        if (!isWithin(value, least, most)) {
            throw new IllegalArgumentException("an argument is out of range");
        }
    }

    private static boolean isWithin(int value, int least, int most) {
        return value >= least && value <= most;
    }

    private static long bring(long value, long least, long most) {
        return value < least ? least : value > most ? most : value;
    }

    /** Every divisor is above 0; the test keeps the machine from ever throwing here. */
    private static long divideDown(long a, long b) {
        return b > 0 ? Math.floorDiv(a, b) : 0;
    }

    private static long mixed(long h, long v) {
        return 31 * h + v;
    }

    /** Everything that undo brings back and that a what-if run must leave alone. */
    private static final class State {
        private final int[] settings = {64880, 2, 1, 8, 500, 0, 3277};
        private final Estimator estimator = new Estimator();
        private final Plant plant = new Plant();

        private void copyFrom(State other) {
            System.arraycopy(other.settings, 0, settings, 0, SETTINGS);
            estimator.copyFrom(other.estimator);
            plant.copyFrom(other.plant);
        }

        private int inputFor(int r, int y) {
            long numerator = (long) ONE * r - (long) estimator.parameters[0] * y - estimator.parameters[2];
            long gain = estimator.parameters[1];
            boolean negative = gain < 0;
            long divisor = Math.max(Math.abs(gain), settings[SMALLEST_GAIN]);
            long input = divideDown(negative ? -numerator : numerator, divisor);
            boolean even = estimator.counts[SAMPLES] % 2 == 0;
            input += even ? settings[DITHER] : -settings[DITHER];
            return (int) bring(input, -settings[INPUT_LIMIT], settings[INPUT_LIMIT]);
        }

        private void step(int u) {
            int before = plant.output;
            plant.move(u);
            estimator.take(settings, before, u, plant.output);
        }

        private long costOfSteps(int r, int steps) {
            long sum = 0;
            for (int i = 0; i < steps; i++) {
                step(inputFor(r, plant.output));
                sum += Math.abs(r - plant.output);
            }
            return sum;
        }

        private long mixedSettings(long start) {
            long h = start;
            for (int i = 0; i < SETTINGS; i++) {
                h = mixed(h, settings[i]);
            }
            return h;
        }
    }

    /** The regressor (y, u, 1) is told by y and u alone, since its last element never changes. */
    private static final class Estimator {
        private static final long MOST_GAIN = 100L * ONE;
        private static final long MOST_ELEMENT = 1000L * ONE;
        private static final long MOST_DIAGONAL_SUM = 2500L * ONE;
        private static final long FIRST_DIAGONAL = 100L * ONE;

        private final int[] low = {-MOST_BOX, -MOST_BOX, -MOST_BOX};
        private final int[] high = {MOST_BOX, MOST_BOX, MOST_BOX};
        private final int[] parameters = new int[PARAMETERS];
        private final long[] matrix = new long[PARAMETERS * PARAMETERS];
        private final int[] counts = new int[COUNTS];
        private final Window window = new Window();

        // Rows of one sample only, no part of the state: they are here so that no sample makes new ones.
        private final long[] directions = new long[PARAMETERS];
        private final long[] gains = new long[PARAMETERS];

        private Estimator() {
            begin();
        }

        private void copyFrom(Estimator other) {
            System.arraycopy(other.low, 0, low, 0, PARAMETERS);
            System.arraycopy(other.high, 0, high, 0, PARAMETERS);
            System.arraycopy(other.parameters, 0, parameters, 0, PARAMETERS);
            System.arraycopy(other.matrix, 0, matrix, 0, PARAMETERS * PARAMETERS);
            System.arraycopy(other.counts, 0, counts, 0, COUNTS);
            window.copyFrom(other.window);
        }

        private void begin() {
            bringIntoBox(0, 0);
            bringIntoBox(1, ONE);
            bringIntoBox(2, 0);
            resetMatrix();
            for (int i = 0; i < COUNTS; i++) {
                counts[i] = 0;
            }
            window.held = 0;
        }

        private void resetMatrix() {
            for (int i = 0; i < PARAMETERS; i++) {
                for (int j = 0; j < PARAMETERS; j++) {
                    matrix[PARAMETERS * i + j] = i == j ? FIRST_DIAGONAL : 0;
                }
            }
        }

        /** Answers whether the value was outside: setBox tells it, and step 4 counts it. */
        private boolean bringIntoBox(int parameter, long value) {
            long inside = bring(value, low[parameter], high[parameter]);
            parameters[parameter] = (int) inside;
            return inside != value;
        }

        /** The error stays in fixed point: only the answer of a sample is rounded to whole units. */
        private long take(int[] settings, int y, int u, int z) {
            long error = (long) ONE * z - weightedSum(y, u);
            counts[SAMPLES]++;
            window.add(y, u);
            if (Math.abs(error) <= (long) ONE * settings[DEAD_ZONE]) {
                counts[IGNORED]++;
                return error;
            }
            long spread = spread(y, u);
            boolean directional = spread < (long) ONE * settings[EXCITATION_LIMIT];
            long forgetting = directional ? ONE : settings[FORGETTING];
            counts[DIRECTIONAL] += directional ? 1 : 0;
            findGains(forgetting + spread);
            moveParameters(error);
            updateMatrix(forgetting);
            if (matrix[0] + matrix[4] + matrix[8] > MOST_DIAGONAL_SUM) {
                resetMatrix();
                counts[RESETS]++;
            }
            return error;
        }

        private void findGains(long divisor) {
            for (int i = 0; i < PARAMETERS; i++) {
                gains[i] = bring(divideDown(ONE * directions[i], divisor), -MOST_GAIN, MOST_GAIN);
            }
        }

        private void moveParameters(long error) {
            boolean outside = false;
            for (int i = 0; i < PARAMETERS; i++) {
                long value = parameters[i] + divideDown(gains[i] * error, ONE);
                outside = bringIntoBox(i, value) || outside;
            }
            if (outside) {
                counts[BOXED]++;
            }
        }

        private void updateMatrix(long forgetting) {
            for (int i = 0; i < PARAMETERS; i++) {
                for (int j = i; j < PARAMETERS; j++) {
                    long less = matrix[PARAMETERS * i + j] - divideDown(gains[i] * directions[j], ONE);
                    long least = i == j ? 1 : -MOST_ELEMENT;
                    long element = bring(divideDown(less * ONE, forgetting), least, MOST_ELEMENT);
                    matrix[PARAMETERS * i + j] = element;
                    matrix[PARAMETERS * j + i] = element;
                }
            }
        }

        private long weightedSum(int y, int u) {
            return (long) parameters[0] * y + (long) parameters[1] * u + parameters[2];
        }

        /** P times the regressor stays in the row of directions, since the steps 3 and 5 need it again. */
        private long spread(int y, int u) {
            for (int i = 0; i < PARAMETERS; i++) {
                int row = PARAMETERS * i;
                directions[i] = matrix[row] * y + matrix[row + 1] * u + matrix[row + 2];
            }
            return Math.max(0, directions[0] * y + directions[1] * u + directions[2]);
        }

        private long mixedInto(long start) {
            long h = start;
            for (int i = 0; i < PARAMETERS; i++) {
                h = mixed(mixed(mixed(h, low[i]), high[i]), parameters[i]);
            }
            for (int i = 0; i < PARAMETERS * PARAMETERS; i++) {
                h = mixed(h, matrix[i]);
            }
            for (int i = 0; i < COUNTS; i++) {
                h = mixed(h, counts[i]);
            }
            return h;
        }
    }

    /** As many regressors as the longest window needs: one made longer reaches back to older ones. */
    private static final class Window {
        private final int[] outputs = new int[MOST_WINDOW];
        private final int[] inputs = new int[MOST_WINDOW];
        private int held = 0;

        private void copyFrom(Window other) {
            System.arraycopy(other.outputs, 0, outputs, 0, MOST_WINDOW);
            System.arraycopy(other.inputs, 0, inputs, 0, MOST_WINDOW);
            held = other.held;
        }

        private void add(int y, int u) {
            System.arraycopy(outputs, 0, outputs, 1, MOST_WINDOW - 1);
            System.arraycopy(inputs, 0, inputs, 1, MOST_WINDOW - 1);
            outputs[0] = y;
            inputs[0] = u;
            held = Math.min(held + 1, MOST_WINDOW);
        }

        private int size(int longest) {
            return Math.min(held, longest);
        }

        private long excitation(int longest) {
            long a = 0;
            long b = 0;
            long c = 0;
            int size = size(longest);
            for (int i = 0; i < size; i++) {
                long y = outputs[i];
                long u = inputs[i];
                a += y * y;
                b += u * u;
                c += y * u;
            }
            return a * b - c * c;
        }
    }

    private static final class Plant {
        private final int[] numbers = {800, 500, 0};
        private int noise = 0;
        private long random = 1;
        private int output = 0;

        private void copyFrom(Plant other) {
            System.arraycopy(other.numbers, 0, numbers, 0, PARAMETERS);
            noise = other.noise;
            random = other.random;
            output = other.output;
        }

        private void move(int u) {
            random = Math.floorMod(1103515245L * random + 12345, 2147483648L);
            long next = (long) numbers[0] * output + (long) numbers[1] * u + numbers[2];
            output = (int) bring(divideDown(next, 1000) + disturbance(), -MOST_SIGNAL, MOST_SIGNAL);
        }

        private long disturbance() {
            long number = divideDown(random, 65536);
            long choices = 2L * noise + 1;
            return number - choices * divideDown(number, choices) - noise;
        }

        private long mixedInto(long start) {
            long h = start;
            for (int i = 0; i < PARAMETERS; i++) {
                h = mixed(h, numbers[i]);
            }
            return mixed(mixed(mixed(h, noise), random), output);
        }
    }

    /** All numbers are read before the first is taken: one out of range must leave everything as it was. */
    private static final class SampleText {
        private static final int NUMBERS_OF_SAMPLE = 3;
        private static final int MOST_DIGITS = 4;
        // The shortest sample, 0,0,0; has 6 bytes.
        private static final int MOST_SAMPLES = MOST_TEXT / 6;

        private final byte[] bytes = new byte[MOST_TEXT];
        private int length = 0;
        private final int[] numbers = new int[NUMBERS_OF_SAMPLE * MOST_SAMPLES];
        private int samples = 0;
        private int position = 0;

        private boolean addIfRoom(int value) {
            if (length >= MOST_TEXT) {
                return false;
            }
            bytes[length] = (byte) value;
            length++;
            return true;
        }

        /** Answers the position of the syntax error, but NONE without one, since 0 is a position too. */
        private int read() {
            samples = 0;
            position = 0;
            for (int i = 0; i < MOST_SAMPLES && position < length; i++) {
                int first = NUMBERS_OF_SAMPLE * i;
                if (!readNumber(first) || !readSign(',') || !readNumber(first + 1) || !readSign(',')
                        || !readNumber(first + 2) || !readSign(';')) {
                    return position;
                }
                samples++;
            }
            return NONE;
        }

        private boolean readNumber(int index) {
            boolean negative = readSign('-');
            int digits = 0;
            int size = 0;
            while (digits < MOST_DIGITS && isWithin(next(), '0', '9')) {
                size = 10 * size + next() - '0';
                position++;
                digits++;
            }
            numbers[index] = negative ? -size : size;
            return digits > 0;
        }

        private boolean readSign(int sign) {
            if (next() != sign) {
                return false;
            }
            position++;
            return true;
        }

        private int next() {
            return position < length ? bytes[position] : NONE;
        }

        private int number(int sample, int which) {
            return numbers[NUMBERS_OF_SAMPLE * sample + which];
        }

        private int firstOutOfRange() {
            for (int i = 0; i < samples; i++) {
                if (!isWithin(number(i, 0), -MOST_SIGNAL, MOST_SIGNAL)
                        || !isWithin(number(i, 1), -MOST_SIGNAL, MOST_SIGNAL)
                        || !isWithin(number(i, 2), -MOST_SAMPLE_OUTPUT, MOST_SAMPLE_OUTPUT)) {
                    return i;
                }
            }
            return NONE;
        }
    }
}
