/** Junctions that several tests begin with; none of them takes more than 60 calls to make. */
final class Junctions {
    private Junctions() {
    }

    static TurnEstimator fresh(int n) {
        TurnEstimator x = new TurnEstimator();
        x.setArms(n);
        return x;
    }

    /** Possible counts that differ from arm to arm, all turns but one open, two rounds. */
    static TurnEstimator busy(int n) {
        TurnEstimator x = fresh(n);
        for (int from = 0; from < n; from++) {
            x.setInflow(from, 101 + 10 * from);
            x.setOutflow(from, 101 + 10 * (n - 1 - from));
            for (int to = 0; to < n; to++) {
                x.setWeight(from, to, 2 + (7 * from + 11 * to) % 89);
            }
        }
        x.setWeight(1, 0, 0);
        x.iterate(2);
        return x;
    }

    /** No turn is open. */
    static TurnEstimator barred(int n) {
        TurnEstimator x = fresh(n);
        for (int from = 0; from < n; from++) {
            for (int to = 0; to < n; to++) {
                x.setWeight(from, to, 0);
            }
        }
        return x;
    }

    static void counts(TurnEstimator x, int[] in, int[] out) {
        for (int arm = 0; arm < in.length; arm++) {
            x.setInflow(arm, in[arm]);
            x.setOutflow(arm, out[arm]);
        }
    }

    static void weightsFrom(TurnEstimator x, int from, int... weights) {
        for (int to = 0; to < weights.length; to++) {
            x.setWeight(from, to, weights[to]);
        }
    }

    /**
     * Numbers that are no arm of a junction with n arms: the first ones on either side, the ones that
     * a greater junction would have, the extremes, and one whose sixfold wraps round to 2.
     */
    static int[] noArms(int n) {
        return new int[] {-1, n, n + 1, 6, -n, Integer.MIN_VALUE, Integer.MAX_VALUE, 715827883};
    }
}
