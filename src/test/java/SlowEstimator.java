import java.util.ArrayDeque;
import java.util.Arrays;

/**
 * A second estimator with the document's face, written from the document in another way: possible
 * tables by paths of a flow network, rounding by a sorted list, new rows wherever they are needed.
 */
final class SlowEstimator {
    private int n;
    private int rounds;
    private int[] in;
    private int[] out;
    private int[][] weight;
    private double[][] e;

    SlowEstimator() {
        begin(4);
    }

    private void begin(int arms) {
        n = arms;
        in = new int[n];
        out = new int[n];
        weight = new int[n][n];
        for (int a = 0; a < n; a++) {
            Arrays.fill(weight[a], 1);
            weight[a][a] = 0;
        }
        reset();
    }

    boolean isOpen(int from, int to) {
        return weight[from][to] != 0;
    }

    private void exist(int... numbers) {
        for (int arm : numbers) {
            if (!(0 <= arm && arm <= n - 1)) {
                throw new IndexOutOfBoundsException();
            }
        }
    }

    private static void range(boolean holds) {
        if (!holds) {
            throw new IllegalArgumentException();
        }
    }

    int setArms(int arms) {
        range(arms == 3 || arms == 4 || arms == 5 || arms == 6);
        int was = n;
        begin(arms);
        return was;
    }

    int arms() {
        return n;
    }

    int setInflow(int arm, int vehicles) {
        exist(arm);
        range(0 <= vehicles && vehicles < 10000);
        int was = in[arm];
        in[arm] = vehicles;
        reset();
        return was;
    }

    int setOutflow(int arm, int vehicles) {
        exist(arm);
        range(0 <= vehicles && vehicles < 10000);
        int was = out[arm];
        out[arm] = vehicles;
        reset();
        return was;
    }

    int setWeight(int from, int to, int value) {
        exist(from, to);
        range(0 <= value && value < 100);
        int was = weight[from][to];
        weight[from][to] = value;
        reset();
        return was;
    }

    int scale(int percent) {
        range(0 <= percent && percent < 301);
        int[] newIn = new int[n];
        int[] newOut = new int[n];
        int sum = 0;
        for (int a = 0; a < n; a++) {
            newIn[a] = Math.floorDiv(in[a] * percent + 50, 100);
            newOut[a] = Math.floorDiv(out[a] * percent + 50, 100);
            if (newIn[a] > 9999 || newOut[a] > 9999) {
                throw new IllegalStateException();
            }
            sum += newIn[a];
        }
        in = newIn;
        out = newOut;
        reset();
        return sum;
    }

    int imbalance() {
        return Arrays.stream(in).sum() - Arrays.stream(out).sum();
    }

    boolean isPossible() {
        return greatestTable() != null;
    }

    int crowdedSet() {
        int found = -1;
        for (int set = (1 << n) - 1; set >= 0; set--) {
            found = excess(set) > 0 ? set : found;
        }
        return found;
    }

    int excess(int set) {
        range(set >= 0 && set >> n == 0);
        int excess = 0;
        for (int to = 0; to < n; to++) {
            boolean reached = false;
            for (int from = 0; from < n; from++) {
                reached |= (set >> from & 1) == 1 && weight[from][to] != 0;
            }
            excess -= reached ? out[to] : 0;
            excess += (set >> to & 1) == 1 ? in[to] : 0;
        }
        return excess;
    }

    // ---- the estimate

    int iterate(int times) {
        range(0 < times && times < 51);
        for (int k = 0; k < times; k++) {
            round();
        }
        return rounds;
    }

    private void round() {
        for (int step = 0; step < 2 * n; step++) {
            int arm = step % n;
            boolean column = step >= n;
            double sum = sum(arm, column);
            if (sum <= 0.0) {
                continue;
            }
            double factor = (column ? out[arm] : in[arm]) / sum;
            for (int a = 0; a < n; a++) {
                int from = column ? a : arm;
                int to = column ? arm : a;
                e[from][to] = e[from][to] * factor;
            }
        }
        rounds++;
    }

    int fit(int thousandths, int limit) {
        range(0 <= thousandths && thousandths < 100001 && 0 < limit && limit < 101);
        for (int k = 0; k < limit; k++) {
            if (misfit() <= thousandths / 1000.0) {
                return k;
            }
            round();
        }
        return limit;
    }

    int reset() {
        int was = rounds;
        rounds = 0;
        e = new double[n][n];
        for (int a = 0; a < n; a++) {
            for (int b = 0; b < n; b++) {
                e[a][b] = weight[a][b];
            }
        }
        return was;
    }

    int rounds() {
        return rounds;
    }

    double estimate(int from, int to) {
        exist(from, to);
        return e[from][to];
    }

    double sum(int arm, boolean column) {
        exist(arm);
        double sum = 0.0;
        for (int a = 0; a < n; a++) {
            sum = sum + (column ? e[a][arm] : e[arm][a]);
        }
        return sum;
    }

    double misfit() {
        double worst = 0.0;
        for (int a = 0; a < n; a++) {
            worst = Math.max(worst, Math.abs(sum(a, false) - in[a]));
            worst = Math.max(worst, Math.abs(sum(a, true) - out[a]));
        }
        return worst;
    }

    double share(int from, int to) {
        exist(from, to);
        double sum = sum(from, false);
        return sum <= 0.0 ? 0.0 : e[from][to] / sum;
    }

    double crossRatio(int a, int b, int c, int d) {
        exist(a, b, c, d);
        double below = e[a][d] * e[b][c];
        if (below <= 0.0) {
            throw new ArithmeticException();
        }
        return e[a][c] * e[b][d] / below;
    }

    int busiestTurn() {
        int best = -1;
        for (int turn = n * n - 1; turn >= 0; turn--) {
            double here = e[turn / n][turn % n];
            if (here > 0.0 && (best < 0 || here >= e[best / 10][best % 10])) {
                best = 10 * (turn / n) + turn % n;
            }
        }
        return best;
    }

    // ---- whole vehicles

    int rounded(int from, int to) {
        exist(from, to);
        return roundedTable()[from][to];
    }

    private int[][] roundedTable() {
        int[][] table = new int[n][n];
        for (int from = 0; from < n; from++) {
            double s = sum(from, false);
            if (!(s > 0.0)) {
                continue;
            }
            double[] x = new double[n];
            int total = 0;
            for (int to = 0; to < n; to++) {
                x[to] = e[from][to] * in[from] / s;
                table[from][to] = (int) Math.floor(x[to]);
                total += table[from][to];
            }
            for (int to : byFraction(from, x)) {
                if (total < in[from]) {
                    table[from][to]++;
                    total++;
                }
            }
        }
        return table;
    }

    /** The open turns from an arm in the order of the document, by insertion. */
    private int[] byFraction(int from, double[] x) {
        int[] order = new int[n];
        int count = 0;
        for (int to = 0; to < n; to++) {
            if (weight[from][to] == 0) {
                continue;
            }
            int at = count;
            while (at > 0 && x[order[at - 1]] - Math.floor(x[order[at - 1]]) < x[to] - Math.floor(x[to])) {
                order[at] = order[at - 1];
                at--;
            }
            order[at] = to;
            count++;
        }
        return Arrays.copyOf(order, count);
    }

    int roundedMisfit() {
        int[][] table = roundedTable();
        int misfit = 0;
        for (int to = 0; to < n; to++) {
            int sum = -out[to];
            for (int from = 0; from < n; from++) {
                sum += table[from][to];
            }
            misfit += Math.abs(sum);
        }
        return misfit;
    }

    int possible(int from, int to) {
        exist(from, to);
        int[][] table = greatestTable();
        return table == null ? -1 : table[from][to];
    }

    /** The greatest possible table, or null: a full flow, then each turn raised as far as cycles go. */
    private int[][] greatestTable() {
        int[][] flow = new int[n][n];
        int[] inLeft = in.clone();
        int[] outLeft = out.clone();
        for (int from = 0; from < n; from++) {
            while (inLeft[from] > 0) {
                if (augment(flow, inLeft, outLeft, from) == 0) {
                    return null;
                }
            }
        }
        for (int left : outLeft) {
            if (left > 0) {
                return null;
            }
        }
        for (int turn = 0; turn < n * n; turn++) {
            while (weight[turn / n][turn % n] > 0 && raise(flow, turn) > 0) {
                continue;
            }
        }
        return flow;
    }

    /** One path from an arm that has vehicles left to an outflow that has room left. */
    private int augment(int[][] flow, int[] inLeft, int[] outLeft, int start) {
        int[] before = search(flow, start, -1, 0);
        for (int to = 0; to < n; to++) {
            if (outLeft[to] > 0 && before[n + to] >= 0) {
                int amount = Math.min(Math.min(inLeft[start], outLeft[to]), along(flow, before, start, to, 0));
                along(flow, before, start, to, amount);
                inLeft[start] -= amount;
                outLeft[to] -= amount;
                return amount;
            }
        }
        return 0;
    }

    /** Raises a turn by a cycle through turns behind it; what stands before it is settled. */
    private int raise(int[][] flow, int turn) {
        int from = turn / n;
        int to = turn % n;
        // Vehicles of other arms give way in column to; the first one that gives starts a path.
        for (int other = from + 1; other < n; other++) {
            if (flow[other][to] == 0) {
                continue;
            }
            int[] before = search(flow, other, from, turn + 1);
            for (int end = to + 1; end < n; end++) {
                if (flow[from][end] > 0 && before[n + end] >= 0) {
                    int most = Math.min(flow[other][to], flow[from][end]);
                    int amount = Math.min(most, along(flow, before, other, end, 0));
                    if (amount == 0) {
                        continue;
                    }
                    flow[other][to] -= amount;
                    flow[from][end] -= amount;
                    flow[from][to] += amount;
                    along(flow, before, other, end, amount);
                    return amount;
                }
            }
        }
        return 0;
    }

    /**
     * Breadth-first from an arm's inflow (node arm) to outflows (node n + arm), without the arm
     * shut and over turns from a number on; answers each node's node before it, or -1.
     */
    private int[] search(int[][] flow, int start, int shut, int firstTurn) {
        int[] before = new int[2 * n];
        Arrays.fill(before, -1);
        before[start] = start;
        ArrayDeque<Integer> queue = new ArrayDeque<>();
        queue.add(start);
        while (!queue.isEmpty()) {
            int node = queue.remove();
            for (int a = 0; a < n; a++) {
                int from = node < n ? node : a;
                int to = node < n ? a : node - n;
                int next = node < n ? n + to : from;
                boolean free = node < n ? weight[from][to] > 0 : flow[from][to] > 0;
                if (free && from != shut && from * n + to >= firstTurn && before[next] < 0) {
                    before[next] = node;
                    queue.add(next);
                }
            }
        }
        return before;
    }

    /** The most that a path can carry (amount 0), or the path with an amount put on it. */
    private int along(int[][] flow, int[] before, int start, int end, int amount) {
        int most = Integer.MAX_VALUE;
        int node = n + end;
        while (node != start) {
            int prior = before[node];
            if (node >= n) {
                flow[prior][node - n] += amount;
            } else {
                most = Math.min(most, flow[node][prior - n]);
                flow[node][prior - n] -= amount;
            }
            node = prior;
        }
        return most;
    }

    long digest() {
        long h = 1873 * 31L + n;
        int[][] table = roundedTable();
        int[][] greatest = greatestTable();
        for (int a = 0; a < n; a++) {
            h = (h * 31 + in[a]) * 31 + out[a];
        }
        for (int a = 0; a < n; a++) {
            for (int b = 0; b < n; b++) {
                h = (h * 31 + weight[a][b]) * 31 + (long) Math.floor(e[a][b] * 1000.0);
                h = (h * 31 + table[a][b]) * 31 + (greatest == null ? -1 : greatest[a][b]);
            }
        }
        h = (h * 31 + imbalance()) * 31 + crowdedSet();
        h = (h * 31 + rounds) * 31 + (long) Math.floor(misfit() * 1000.0);
        return (h * 31 + busiestTurn()) * 31 + roundedMisfit();
    }
}
