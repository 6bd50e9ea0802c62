/** Promises 22 and 23 with ordinary inputs; their boundary cases are in RoundingBoundaries. */
public final class RoundingTest {
    private static final Check CHECK = new Check("RoundingTest");

    public static void main(String[] args) {
        sixths();
        for (int n = 3; n <= 6; n++) {
            fitted(n);
        }
        CHECK.end();
    }

    private static void sixths() {
        TurnEstimator x = Junctions.fresh(3);
        Junctions.weightsFrom(x, 0, 1, 2, 3);
        x.setInflow(0, 20);
        // 3.33, 6.67 and 10.0
        CHECK.same("22: rounded(0, 0)", x.rounded(0, 0), 3);
        CHECK.same("22: rounded(0, 1)", x.rounded(0, 1), 7);
        CHECK.same("22: rounded(0, 2)", x.rounded(0, 2), 10);
        x.setOutflow(1, 9);
        CHECK.same("23: roundedMisfit()", x.roundedMisfit(), 3 + 2 + 10);
    }

    /** Every row of whole vehicles sums to its inflow, near to the estimate. */
    private static void fitted(int n) {
        TurnEstimator x = Junctions.busy(n);
        x.fit(1, 100);
        int[] columns = new int[n];
        for (int from = 0; from < n; from++) {
            int row = 0;
            for (int to = 0; to < n; to++) {
                int vehicles = x.rounded(from, to);
                CHECK.near("22: " + from + " " + to, vehicles, x.estimate(from, to), 1.0);
                row += vehicles;
                columns[to] += vehicles;
            }
            CHECK.same("22: the row of arm " + from, row, 101 + 10 * from);
        }
        int misfit = 0;
        for (int to = 0; to < n; to++) {
            misfit += Math.abs(columns[to] - (101 + 10 * (n - 1 - to)));
        }
        CHECK.same("23: of " + n + " arms", x.roundedMisfit(), misfit);
    }
}
