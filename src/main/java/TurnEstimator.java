/**
 * An estimator of turning movements at a road junction: it fits an estimate of every turn to the
 * counts of the arms, proves that counts are contradictory, and rounds the estimate to vehicles.
 */
public final class TurnEstimator {
    public static final int NONE = -1;

    private static final int FIRST_ARMS = 4;
    private static final int LEAST_ARMS = 3;
    private static final int MOST_ARMS = 6;
    private static final int MOST_VEHICLES = 9999;
    private static final int MOST_WEIGHT = 99;
    private static final int MOST_PERCENT = 300;
    private static final int MOST_ROUNDS = 50;
    private static final int MOST_THOUSANDTHS = 100000;
    private static final int MOST_FIT_ROUNDS = 100;
    private static final long DIGEST_START = 1873L;
    private static final long DIGEST_FACTOR = 31L;

    // Every row has room for the greatest junction, so that no call but the constructor makes one.
    // A row over turns holds the turn from a to b at turn(a, b), whatever the number of arms is.
    private final int[] inflows = new int[MOST_ARMS];
    private final int[] outflows = new int[MOST_ARMS];
    private final int[] weights = new int[MOST_ARMS * MOST_ARMS];
    private final double[] estimates = new double[MOST_ARMS * MOST_ARMS];

    // For each arm the set of arms to which a turn that is not barred leads; it follows the weights.
    private final int[] targets = new int[MOST_ARMS];

    // Room for computations; what stands in these rows between two calls has no meaning.
    private final int[] roundedTable = new int[MOST_ARMS * MOST_ARMS];
    private final int[] possibleTable = new int[MOST_ARMS * MOST_ARMS];
    private final int[] outflowsLeft = new int[MOST_ARMS];
    private final double[] fractions = new double[MOST_ARMS];

    private int armCount;
    private int roundCount;

    public TurnEstimator() {
        beginJunction(FIRST_ARMS);
    }

    // ---- counts

    public int setArms(int n) throws IllegalArgumentException {
        requireWithin(n, LEAST_ARMS, MOST_ARMS);
        int previous = armCount;
        beginJunction(n);
        return previous;
    }

    public int arms() {
        return armCount;
    }

    public int setInflow(int arm, int vehicles) throws IndexOutOfBoundsException, IllegalArgumentException {
        return setCount(inflows, arm, vehicles);
    }

    public int setOutflow(int arm, int vehicles) throws IndexOutOfBoundsException, IllegalArgumentException {
        return setCount(outflows, arm, vehicles);
    }

    public int setWeight(int from, int to, int weight) throws IndexOutOfBoundsException, IllegalArgumentException {
        requireArm(from);
        requireArm(to);
        requireWithin(weight, 0, MOST_WEIGHT);
        int previous = weights[turn(from, to)];
        putWeight(from, to, weight);
        resetEstimate();
        return previous;
    }

    public int scale(int percent) throws IllegalArgumentException, IllegalStateException {
        requireWithin(percent, 0, MOST_PERCENT);
        // All counts are looked at before the first one is changed: a refused call changes nothing.
        for (int arm = 0; arm < armCount; arm++) {
            requireScalable(inflows[arm], percent);
            requireScalable(outflows[arm], percent);
        }
        for (int arm = 0; arm < armCount; arm++) {
            inflows[arm] = scaled(inflows[arm], percent);
            outflows[arm] = scaled(outflows[arm], percent);
        }
        resetEstimate();
        return total(inflows);
    }

    public int imbalance() {
        return total(inflows) - total(outflows);
    }

    public boolean isPossible() {
        return imbalance() == 0 && crowdedSet() == NONE;
    }

    public int crowdedSet() {
        for (int set = 1; set <= allArms(); set++) {
            if (excessOver(set, outflows) > 0) {
                return set;
            }
        }
        return NONE;
    }

    public int excess(int arms) throws IllegalArgumentException {
        requireWithin(arms, 0, allArms());
        return excessOver(arms, outflows);
    }

    // ---- the estimate

    public int iterate(int n) throws IllegalArgumentException {
        requireWithin(n, 1, MOST_ROUNDS);
        for (int k = 0; k < n; k++) {
            carryOutRound();
        }
        return roundCount;
    }

    public int fit(int thousandths, int limit) throws IllegalArgumentException {
        requireWithin(thousandths, 0, MOST_THOUSANDTHS);
        requireWithin(limit, 1, MOST_FIT_ROUNDS);
        double bound = thousandths / 1000.0;
        int carriedOut = 0;
        while (carriedOut < limit && misfit() > bound) {
            carryOutRound();
            carriedOut++;
        }
        return carriedOut;
    }

    public int reset() {
        int previous = roundCount;
        resetEstimate();
        return previous;
    }

    public int rounds() {
        return roundCount;
    }

    public double estimate(int from, int to) throws IndexOutOfBoundsException {
        requireArm(from);
        requireArm(to);
        return estimates[turn(from, to)];
    }

    public double sum(int arm, boolean column) throws IndexOutOfBoundsException {
        requireArm(arm);
        return column ? columnSum(arm) : rowSum(arm);
    }

    public double misfit() {
        double greatest = 0.0;
        for (int arm = 0; arm < armCount; arm++) {
            double ofRow = distance(rowSum(arm), inflows[arm]);
            double ofColumn = distance(columnSum(arm), outflows[arm]);
            greatest = ofRow > greatest ? ofRow : greatest;
            greatest = ofColumn > greatest ? ofColumn : greatest;
        }
        return greatest;
    }

    public double share(int from, int to) throws IndexOutOfBoundsException {
        requireArm(from);
        requireArm(to);
        double sum = rowSum(from);
        return sum > 0.0 ? estimates[turn(from, to)] / sum : 0.0;
    }

    public double crossRatio(int a, int b, int c, int d) throws IndexOutOfBoundsException, ArithmeticException {
        requireArm(a);
        requireArm(b);
        requireArm(c);
        requireArm(d);
        double first = estimates[turn(a, c)] * estimates[turn(b, d)];
        double second = estimates[turn(a, d)] * estimates[turn(b, c)];
        if (!(second > 0.0)) {
            throw new ArithmeticException("the second product is not greater than 0.0");
        }
        return first / second;
    }

    public int busiestTurn() {
        int busiest = NONE;
        double greatest = 0.0;
        for (int from = 0; from < armCount; from++) {
            for (int to = 0; to < armCount; to++) {
                if (estimates[turn(from, to)] > greatest) {
                    greatest = estimates[turn(from, to)];
                    busiest = 10 * from + to;
                }
            }
        }
        return busiest;
    }

    // ---- whole vehicles

    public int rounded(int from, int to) throws IndexOutOfBoundsException {
        requireArm(from);
        requireArm(to);
        roundRow(from);
        return roundedTable[turn(from, to)];
    }

    public int roundedMisfit() {
        roundAllRows();
        return roundedDifference();
    }

    public int possible(int from, int to) throws IndexOutOfBoundsException {
        requireArm(from);
        requireArm(to);
        fillPossibleTable();
        return possibleTable[turn(from, to)];
    }

    public long digest() {
        roundAllRows();
        fillPossibleTable();
        long hash = mixed(DIGEST_START, armCount);
        for (int arm = 0; arm < armCount; arm++) {
            hash = mixed(hash, inflows[arm]);
            hash = mixed(hash, outflows[arm]);
        }
        for (int from = 0; from < armCount; from++) {
            for (int to = 0; to < armCount; to++) {
                hash = mixedTurn(hash, turn(from, to));
            }
        }
        hash = mixed(hash, imbalance());
        hash = mixed(hash, crowdedSet());
        hash = mixed(hash, roundCount);
        hash = mixed(hash, thousandthsOf(misfit()));
        hash = mixed(hash, busiestTurn());
        return mixed(hash, roundedDifference());
    }

    // ---- refusals

    private void requireArm(int arm) {
        if (arm < 0 || arm >= armCount) {
            throw new IndexOutOfBoundsException("the arm does not exist");
        }
    }

    private static void requireWithin(int value, int least, int most) {
        if (value < least || value > most) {
            throw new IllegalArgumentException("the argument is out of its range");
        }
    }

    private static void requireScalable(int count, int percent) {
        if (scaled(count, percent) > MOST_VEHICLES) {
            throw new IllegalStateException("a count would become greater than 9999");
        }
    }

    // ---- the junction

    private static int turn(int from, int to) {
        return from * MOST_ARMS + to;
    }

    private int allArms() {
        return (1 << armCount) - 1;
    }

    private static boolean contains(int set, int arm) {
        return (set & (1 << arm)) != 0;
    }

    private boolean isOpen(int from, int to) {
        return contains(targets[from], to);
    }

    private void beginJunction(int arms) {
        armCount = arms;
        for (int from = 0; from < armCount; from++) {
            inflows[from] = 0;
            outflows[from] = 0;
            // Arms that exist no more may have left their bits here.
            targets[from] = 0;
            for (int to = 0; to < armCount; to++) {
                putWeight(from, to, from == to ? 0 : 1);
            }
        }
        resetEstimate();
    }

    private void putWeight(int from, int to, int weight) {
        weights[turn(from, to)] = weight;
        if (weight > 0) {
            targets[from] |= 1 << to;
        } else {
            targets[from] &= ~(1 << to);
        }
    }

    private int setCount(int[] counts, int arm, int vehicles) {
        requireArm(arm);
        requireWithin(vehicles, 0, MOST_VEHICLES);
        int previous = counts[arm];
        counts[arm] = vehicles;
        resetEstimate();
        return previous;
    }

    private static int scaled(int count, int percent) {
        return (count * percent + 50) / 100;
    }

    private int total(int[] counts) {
        int total = 0;
        for (int arm = 0; arm < armCount; arm++) {
            total += counts[arm];
        }
        return total;
    }

    // ---- possible counts

    private int reachedFrom(int set) {
        int reached = 0;
        for (int arm = 0; arm < armCount; arm++) {
            if (contains(set, arm)) {
                reached |= targets[arm];
            }
        }
        return reached;
    }

    private int excessOver(int set, int[] capacities) {
        int reached = reachedFrom(set);
        int excess = 0;
        for (int arm = 0; arm < armCount; arm++) {
            if (contains(set, arm)) {
                excess += inflows[arm];
            }
            if (contains(reached, arm)) {
                excess -= capacities[arm];
            }
        }
        return excess;
    }

    private void fillPossibleTable() {
        boolean possible = isPossible();
        System.arraycopy(outflows, 0, outflowsLeft, 0, MOST_ARMS);
        for (int from = 0; from < armCount; from++) {
            int inflowLeft = inflows[from];
            for (int to = 0; to < armCount; to++) {
                int vehicles = possible ? greatestPossible(from, to, inflowLeft) : NONE;
                possibleTable[turn(from, to)] = vehicles;
                if (possible) {
                    inflowLeft -= vehicles;
                    outflowsLeft[to] -= vehicles;
                }
            }
        }
    }

    /**
     * The most vehicles that can make a turn when all turns before it are settled: what is left can
     * be completed just if none of the sets of later arms becomes crowded, so only these, and the
     * counts of the turn's own two arms, bound it. (Sets with the arm from bound it from below.)
     */
    private int greatestPossible(int from, int to, int inflowLeft) {
        if (!isOpen(from, to)) {
            return 0;
        }
        int greatest = Math.min(inflowLeft, outflowsLeft[to]);
        int step = 2 << from;
        // The multiples of step are the sets of arms behind from.
        for (int set = step; set <= allArms(); set += step) {
            if (contains(reachedFrom(set), to)) {
                greatest = Math.min(greatest, -excessOver(set, outflowsLeft));
            }
        }
        return greatest;
    }

    // ---- the estimate and its rounds

    private void resetEstimate() {
        for (int from = 0; from < armCount; from++) {
            for (int to = 0; to < armCount; to++) {
                estimates[turn(from, to)] = weights[turn(from, to)];
            }
        }
        roundCount = 0;
    }

    private double rowSum(int from) {
        double sum = 0.0;
        for (int to = 0; to < armCount; to++) {
            sum += estimates[turn(from, to)];
        }
        return sum;
    }

    private double columnSum(int to) {
        double sum = 0.0;
        for (int from = 0; from < armCount; from++) {
            sum += estimates[turn(from, to)];
        }
        return sum;
    }

    private void carryOutRound() {
        for (int arm = 0; arm < armCount; arm++) {
            carryOutRowStep(arm);
        }
        for (int arm = 0; arm < armCount; arm++) {
            carryOutColumnStep(arm);
        }
        roundCount++;
    }

    private void carryOutRowStep(int from) {
        double sum = rowSum(from);
        if (sum > 0.0) {
            double factor = inflows[from] / sum;
            for (int to = 0; to < armCount; to++) {
                estimates[turn(from, to)] *= factor;
            }
        }
    }

    private void carryOutColumnStep(int to) {
        double sum = columnSum(to);
        if (sum > 0.0) {
            double factor = outflows[to] / sum;
            for (int from = 0; from < armCount; from++) {
                estimates[turn(from, to)] *= factor;
            }
        }
    }

    private static double distance(double a, double b) {
        double difference = a - b;
        return difference < 0.0 ? -difference : difference;
    }

    // ---- rounding

    private void roundAllRows() {
        for (int from = 0; from < armCount; from++) {
            roundRow(from);
        }
    }

    private void roundRow(int from) {
        double sum = rowSum(from);
        int total = 0;
        for (int to = 0; to < armCount; to++) {
            double exact = sum > 0.0 ? estimates[turn(from, to)] * inflows[from] / sum : 0.0;
            int whole = (int) exact;
            roundedTable[turn(from, to)] = whole;
            fractions[to] = exact - whole;
            total += whole;
        }
        if (sum > 0.0) {
            raiseGreatestFractions(from, inflows[from] - total);
        }
    }

    private void raiseGreatestFractions(int from, int missing) {
        int raises = Math.min(missing, armCount);
        for (int k = 0; k < raises; k++) {
            int to = greatestFraction(from);
            if (to == NONE) {
                return;
            }
            roundedTable[turn(from, to)]++;
            // Less than every fraction, so that the turn is not raised again.
            fractions[to] = -1.0;
        }
    }

    private int greatestFraction(int from) {
        int found = NONE;
        double greatest = -1.0;
        for (int to = 0; to < armCount; to++) {
            if (isOpen(from, to) && fractions[to] > greatest) {
                greatest = fractions[to];
                found = to;
            }
        }
        return found;
    }

    private int roundedDifference() {
        int difference = 0;
        for (int to = 0; to < armCount; to++) {
            int vehicles = 0;
            for (int from = 0; from < armCount; from++) {
                vehicles += roundedTable[turn(from, to)];
            }
            difference += Math.abs(vehicles - outflows[to]);
        }
        return difference;
    }

    // ---- the hash

    private static long mixed(long hash, long value) {
        return DIGEST_FACTOR * hash + value;
    }

    private long mixedTurn(long hash, int turn) {
        long mixture = mixed(hash, weights[turn]);
        mixture = mixed(mixture, thousandthsOf(estimates[turn]));
        mixture = mixed(mixture, roundedTable[turn]);
        return mixed(mixture, possibleTable[turn]);
    }

    private static long thousandthsOf(double value) {
        // The values are never negative, so the cast rounds down.
        return (long) (value * 1000.0);
    }
}
