import java.util.ArrayDeque;

/**
 * Long runs of calls, the same ones on a TurnEstimator and on a slow estimator that was written
 * from the document in another way (possible tables by paths of a flow network, sets by lists).
 */
public final class ReferenceTest {
    private static final Check CHECK = new Check("ReferenceTest");
    private static long seed;

    public static void main(String[] args) {
        for (int run = 0; run < 400; run++) {
            seed = 77777L * run + 12345L;
            oneRun(run);
        }
        CHECK.end();
    }

    private static int below(int bound) {
        seed = seed * 6364136223846793005L + 1442695040888963407L;
        return (int) Math.floorMod(seed >>> 33, (long) bound);
    }

    private static void oneRun(int run) {
        TurnEstimator x = new TurnEstimator();
        Reference r = new Reference();
        int style = run % 4;
        for (int call = 0; call < 60; call++) {
            String what = "run " + run + ", call " + call;
            change(what, x, r, style);
            if (call % 6 == 5) {
                balance(x, r);
            }
            compare(what, x, r);
        }
    }

    private static void change(String what, TurnEstimator x, Reference r, int style) {
        int from = below(r.n);
        int to = below(r.n);
        int most = new int[] {4, 40, 1000, 10000}[style];
        switch (below(below(8) == 0 ? 8 : 7)) {
            case 0 -> { int v = below(most); int was = r.in[from]; r.in[from] = v; r.reset();
                CHECK.same(what + " setInflow", x.setInflow(from, v), was); }
            case 1 -> { int v = below(most); int was = r.out[from]; r.out[from] = v; r.reset();
                CHECK.same(what + " setOutflow", x.setOutflow(from, v), was); }
            case 2, 3 -> { int v = below(3) == 0 ? 0 : below(100); int was = r.weight[from][to];
                r.weight[from][to] = v; r.reset();
                CHECK.same(what + " setWeight", x.setWeight(from, to, v), was); }
            case 4 -> { int k = 1 + below(50);
                CHECK.same(what + " iterate", x.iterate(k), r.iterate(k)); }
            case 5 -> { int t = below(2) == 0 ? below(100001) : below(50); int limit = 1 + below(100);
                CHECK.same(what + " fit", x.fit(t, limit), r.fit(t, limit)); }
            case 6 -> { int p = below(301); scale(what, x, r, p); }
            default -> { int k = 3 + below(4);
                CHECK.same(what + " setArms", x.setArms(k), r.begin(k)); }
        }
    }

    private static void scale(String what, TurnEstimator x, Reference r, int percent) {
        int due = r.scale(percent);
        if (due < 0) {
            CHECK.refused(what + " scale", x, IllegalStateException.class, () -> x.scale(percent));
        } else {
            CHECK.same(what + " scale", x.scale(percent), due);
        }
    }

    /** Sets counts that some table fits, so that possible tables are often looked at. */
    private static void balance(TurnEstimator x, Reference r) {
        int[] in = new int[r.n];
        int[] out = new int[r.n];
        for (int from = 0; from < r.n; from++) {
            for (int to = 0; to < r.n; to++) {
                int v = r.weight[from][to] == 0 || below(2) == 0 ? 0 : below(1600);
                in[from] += v;
                out[to] += v;
            }
        }
        for (int arm = 0; arm < r.n; arm++) {
            x.setInflow(arm, in[arm]);
            x.setOutflow(arm, out[arm]);
            r.in[arm] = in[arm];
            r.out[arm] = out[arm];
        }
        r.reset();
    }

    private static void compare(String what, TurnEstimator x, Reference r) {
        CHECK.same(what + " arms", x.arms(), r.n);
        CHECK.same(what + " rounds", x.rounds(), r.rounds);
        int[][] possible = r.possible();
        int[][] rounded = r.rounded();
        CHECK.same(what + " isPossible", x.isPossible(), possible != null);
        for (int from = 0; from < r.n; from++) {
            CHECK.same(what + " row sum", x.sum(from, false), r.sum(from, false));
            CHECK.same(what + " column sum", x.sum(from, true), r.sum(from, true));
            for (int to = 0; to < r.n; to++) {
                String turn = what + ", " + from + " " + to;
                CHECK.same(turn + " estimate", x.estimate(from, to), r.e[from][to]);
                CHECK.same(turn + " rounded", x.rounded(from, to), rounded[from][to]);
                CHECK.same(turn + " possible", x.possible(from, to), possible == null ? -1 : possible[from][to]);
                double sum = r.sum(from, false);
                CHECK.same(turn + " share", x.share(from, to), sum > 0.0 ? r.e[from][to] / sum : 0.0);
            }
        }
        CHECK.same(what + " crowdedSet", x.crowdedSet(), r.crowdedSet());
        int set = below(1 << r.n);
        CHECK.same(what + " excess", x.excess(set), r.excess(set));
        CHECK.same(what + " misfit", x.misfit(), r.misfit());
        CHECK.same(what + " busiestTurn", x.busiestTurn(), r.busiestTurn());
        CHECK.same(what + " roundedMisfit", x.roundedMisfit(), r.roundedMisfit());
        CHECK.same(what + " digest", x.digest(), r.digest());
    }

    private static final class Reference {
        int n;
        int rounds;
        int[] in;
        int[] out;
        int[][] weight;
        double[][] e;

        Reference() {
            begin(4);
        }

        int begin(int arms) {
            int was = n;
            n = arms;
            in = new int[n];
            out = new int[n];
            weight = new int[n][n];
            for (int a = 0; a < n; a++) {
                for (int b = 0; b < n; b++) {
                    weight[a][b] = a == b ? 0 : 1;
                }
            }
            reset();
            return was;
        }

        void reset() {
            rounds = 0;
            e = new double[n][n];
            for (int a = 0; a < n; a++) {
                for (int b = 0; b < n; b++) {
                    e[a][b] = weight[a][b];
                }
            }
        }

        int scale(int percent) {
            int[] newIn = new int[n];
            int[] newOut = new int[n];
            int sum = 0;
            for (int a = 0; a < n; a++) {
                newIn[a] = Math.floorDiv(in[a] * percent + 50, 100);
                newOut[a] = Math.floorDiv(out[a] * percent + 50, 100);
                if (newIn[a] > 9999 || newOut[a] > 9999) {
                    return -1;
                }
                sum += newIn[a];
            }
            in = newIn;
            out = newOut;
            reset();
            return sum;
        }

        double sum(int arm, boolean column) {
            double sum = 0.0;
            for (int a = 0; a < n; a++) {
                sum = sum + (column ? e[a][arm] : e[arm][a]);
            }
            return sum;
        }

        int iterate(int k) {
            for (; k > 0; k--) {
                for (int step = 0; step < 2 * n; step++) {
                    int arm = step % n;
                    boolean column = step >= n;
                    double sum = sum(arm, column);
                    if (sum <= 0.0) {
                        continue;
                    }
                    double factor = (column ? out[arm] : in[arm]) / sum;
                    for (int a = 0; a < n; a++) {
                        int from = column ? a : arm;
                        int to = column ? arm : a;
                        e[from][to] = e[from][to] * factor;
                    }
                }
                rounds++;
            }
            return rounds;
        }

        int fit(int thousandths, int limit) {
            for (int k = 0; k < limit; k++) {
                if (misfit() <= thousandths / 1000.0) {
                    return k;
                }
                iterate(1);
            }
            return limit;
        }

        double misfit() {
            double worst = 0.0;
            for (int a = 0; a < n; a++) {
                worst = Math.max(worst, Math.abs(sum(a, false) - in[a]));
                worst = Math.max(worst, Math.abs(sum(a, true) - out[a]));
            }
            return worst;
        }

        int excess(int set) {
            int excess = 0;
            for (int to = 0; to < n; to++) {
                boolean reached = false;
                for (int from = 0; from < n; from++) {
                    reached |= (set >> from & 1) == 1 && weight[from][to] != 0;
                }
                excess -= reached ? out[to] : 0;
                excess += (set >> to & 1) == 1 ? in[to] : 0;
            }
            return excess;
        }

        int crowdedSet() {
            int found = -1;
            for (int set = (1 << n) - 1; set >= 0; set--) {
                found = excess(set) > 0 ? set : found;
            }
            return found;
        }

        int busiestTurn() {
            int best = -1;
            for (int turn = n * n - 1; turn >= 0; turn--) {
                double here = e[turn / n][turn % n];
                if (here > 0.0 && (best < 0 || here >= e[best / 10][best % 10])) {
                    best = 10 * (turn / n) + turn % n;
                }
            }
            return best;
        }

        int[][] rounded() {
            int[][] table = new int[n][n];
            for (int from = 0; from < n; from++) {
                double s = sum(from, false);
                if (!(s > 0.0)) {
                    continue;
                }
                double[] x = new double[n];
                int total = 0;
                for (int to = 0; to < n; to++) {
                    x[to] = e[from][to] * in[from] / s;
                    table[from][to] = (int) Math.floor(x[to]);
                    total += table[from][to];
                }
                for (int to : byFraction(from, x)) {
                    if (total < in[from]) {
                        table[from][to]++;
                        total++;
                    }
                }
            }
            return table;
        }

        /** The open turns from an arm in the order of the document, by insertion. */
        int[] byFraction(int from, double[] x) {
            int[] order = new int[n];
            int count = 0;
            for (int to = 0; to < n; to++) {
                if (weight[from][to] == 0) {
                    continue;
                }
                int at = count;
                while (at > 0 && x[order[at - 1]] - Math.floor(x[order[at - 1]]) < x[to] - Math.floor(x[to])) {
                    order[at] = order[at - 1];
                    at--;
                }
                order[at] = to;
                count++;
            }
            return java.util.Arrays.copyOf(order, count);
        }

        int roundedMisfit() {
            int[][] table = rounded();
            int misfit = 0;
            for (int to = 0; to < n; to++) {
                int sum = -out[to];
                for (int from = 0; from < n; from++) {
                    sum += table[from][to];
                }
                misfit += Math.abs(sum);
            }
            return misfit;
        }

        /** The greatest possible table, or null: a full flow, then each turn raised as far as cycles go. */
        int[][] possible() {
            int[][] flow = new int[n][n];
            int[] inLeft = in.clone();
            int[] outLeft = out.clone();
            for (int from = 0; from < n; from++) {
                while (inLeft[from] > 0) {
                    int pushed = augment(flow, inLeft, outLeft, from);
                    if (pushed == 0) {
                        return null;
                    }
                }
            }
            for (int left : outLeft) {
                if (left > 0) {
                    return null;
                }
            }
            for (int turn = 0; turn < n * n; turn++) {
                while (weight[turn / n][turn % n] > 0 && raise(flow, turn) > 0) {
                    continue;
                }
            }
            return flow;
        }

        /** One path from an arm that has vehicles left to an outflow that has room left. */
        int augment(int[][] flow, int[] inLeft, int[] outLeft, int start) {
            int[] before = search(flow, start, -1, 0);
            for (int to = 0; to < n; to++) {
                if (outLeft[to] > 0 && before[n + to] >= 0) {
                    int amount = Math.min(Math.min(inLeft[start], outLeft[to]), along(flow, before, start, to, 0));
                    along(flow, before, start, to, amount);
                    inLeft[start] -= amount;
                    outLeft[to] -= amount;
                    return amount;
                }
            }
            return 0;
        }

        /** Raises a turn by a cycle through turns behind it; what stands before it is settled. */
        int raise(int[][] flow, int turn) {
            int from = turn / n;
            int to = turn % n;
            // Vehicles of other arms give way in column to; the first one that gives starts a path.
            for (int other = from + 1; other < n; other++) {
                if (flow[other][to] == 0) {
                    continue;
                }
                int[] before = search(flow, other, from, turn + 1);
                for (int end = to + 1; end < n; end++) {
                    if (flow[from][end] > 0 && before[n + end] >= 0) {
                        int most = Math.min(flow[other][to], flow[from][end]);
                        int amount = Math.min(most, along(flow, before, other, end, 0));
                        if (amount == 0) {
                            continue;
                        }
                        flow[other][to] -= amount;
                        flow[from][end] -= amount;
                        flow[from][to] += amount;
                        along(flow, before, other, end, amount);
                        return amount;
                    }
                }
            }
            return 0;
        }

        /**
         * Breadth-first from an arm's inflow (node arm) to outflows (node n + arm), without the arm
         * shut and over turns from a number on; answers each node's node before it, or -1.
         */
        int[] search(int[][] flow, int start, int shut, int firstTurn) {
            int[] before = new int[2 * n];
            java.util.Arrays.fill(before, -1);
            before[start] = start;
            ArrayDeque<Integer> queue = new ArrayDeque<>();
            queue.add(start);
            while (!queue.isEmpty()) {
                int node = queue.remove();
                for (int a = 0; a < n; a++) {
                    int from = node < n ? node : a;
                    int to = node < n ? a : node - n;
                    int next = node < n ? n + to : from;
                    boolean free = node < n ? weight[from][to] > 0 : flow[from][to] > 0;
                    if (free && from != shut && from * n + to >= firstTurn && before[next] < 0) {
                        before[next] = node;
                        queue.add(next);
                    }
                }
            }
            return before;
        }

        /** The most that a path can carry (amount 0), or the path with an amount put on it. */
        int along(int[][] flow, int[] before, int start, int end, int amount) {
            int most = Integer.MAX_VALUE;
            int node = n + end;
            while (node != start) {
                int prior = before[node];
                if (node >= n) {
                    flow[prior][node - n] += amount;
                } else {
                    most = Math.min(most, flow[node][prior - n]);
                    flow[node][prior - n] -= amount;
                }
                node = prior;
            }
            return most;
        }

        long digest() {
            long h = 1873 * 31L + n;
            int[][] table = rounded();
            int[][] greatest = possible();
            for (int a = 0; a < n; a++) {
                h = (h * 31 + in[a]) * 31 + out[a];
            }
            for (int a = 0; a < n; a++) {
                for (int b = 0; b < n; b++) {
                    h = (h * 31 + weight[a][b]) * 31 + (long) Math.floor(e[a][b] * 1000.0);
                    h = (h * 31 + table[a][b]) * 31 + (greatest == null ? -1 : greatest[a][b]);
                }
            }
            int imbalance = 0;
            for (int a = 0; a < n; a++) {
                imbalance += in[a] - out[a];
            }
            h = (h * 31 + imbalance) * 31 + crowdedSet();
            h = (h * 31 + rounds) * 31 + (long) Math.floor(misfit() * 1000.0);
            return (h * 31 + busiestTurn()) * 31 + roundedMisfit();
        }
    }
}
