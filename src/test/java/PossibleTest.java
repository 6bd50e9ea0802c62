/** Promises 9, 10, 11 and 24 with ordinary inputs; their boundary cases are in PossibleBoundaries. */
public final class PossibleTest {
    private static final Check CHECK = new Check("PossibleTest");

    public static void main(String[] args) {
        balanceAlone();
        crowdedSets();
        everySmallJunction();
        CHECK.end();
    }

    private static void balanceAlone() {
        TurnEstimator x = new TurnEstimator();
        CHECK.same("9: no vehicles", x.isPossible(), true);
        x.setInflow(0, 1);
        CHECK.same("9: one too many comes in", x.isPossible(), false);
        CHECK.same("10: it crowds arm 0", x.crowdedSet(), 1);
        x.setOutflow(1, 1);
        CHECK.same("9: it leaves", x.isPossible(), true);
        x.setOutflow(2, 1);
        CHECK.same("9: one too many leaves", x.isPossible(), false);
        CHECK.same("10: but no set is crowded", x.crowdedSet(), TurnEstimator.NONE);
        x.iterate(10);
        CHECK.same("9: rounds change nothing", x.isPossible(), false);
    }

    private static void crowdedSets() {
        TurnEstimator x = new TurnEstimator();
        // Arms 1 and 3 lead to arm 2 alone: each has room there, the two together have not.
        barAllFrom(x, 1, 4);
        barAllFrom(x, 3, 4);
        x.setWeight(1, 2, 5);
        x.setWeight(3, 2, 99);
        x.setInflow(1, 6);
        x.setInflow(3, 5);
        x.setInflow(0, 1);
        x.setOutflow(2, 10);
        x.setOutflow(0, 1);
        x.setOutflow(1, 1);
        CHECK.same("10: balance", x.imbalance(), 0);
        CHECK.same("10: arms 1 and 3", x.crowdedSet(), 2 + 8);
        CHECK.same("9: they are crowded", x.isPossible(), false);
        CHECK.same("11: by one", x.excess(10), 1);
        CHECK.same("11: arm 1 alone", x.excess(2), -4);
        x.setInflow(1, 11);
        CHECK.same("10: the least mask", x.crowdedSet(), 2);
        x.setInflow(1, 5);
        CHECK.same("10: as much as there is room", x.crowdedSet(), TurnEstimator.NONE);
        x.setInflow(0, 2);
        CHECK.same("10: arm 0 is kept from itself", x.crowdedSet(), 1 + 2 + 8);
        CHECK.same("9: and so it is not possible", x.isPossible(), false);
        x.setWeight(0, 0, 1);
        CHECK.same("9: but with a turn back", x.isPossible(), true);
        x.setArms(6);
        barAllFrom(x, 5, 6);
        x.setInflow(5, 1);
        x.setOutflow(0, 1);
        CHECK.same("10: the last arm of six", x.crowdedSet(), 32);
        x.setWeight(5, 0, 1);
        CHECK.same("10: with a turn", x.crowdedSet(), TurnEstimator.NONE);
    }

    private static void barAllFrom(TurnEstimator x, int from, int n) {
        for (int to = 0; to < n; to++) {
            x.setWeight(from, to, 0);
        }
    }

    private static void table(String what, TurnEstimator x, int[] due) {
        int n = x.arms();
        for (int from = 0; from < n; from++) {
            for (int to = 0; to < n; to++) {
                CHECK.same(what + ", " + from + " " + to, x.possible(from, to), due[from * n + to]);
            }
        }
    }

    /** All junctions of three arms with these few counts and all sets of barred turns. */
    private static void everySmallJunction() {
        int[][] someCounts = {
            {1, 1, 1, 1, 1, 1}, {2, 1, 0, 1, 1, 1}, {0, 3, 1, 2, 1, 1}, {2, 2, 1, 0, 2, 3},
            {1, 2, 2, 2, 2, 1}, {3, 0, 0, 1, 0, 2}, {2, 2, 2, 1, 2, 2}, {1, 0, 0, 2, 0, 0},
        };
        for (int[] c : someCounts) {
            for (int open = 0; open < 512; open++) {
                TurnEstimator x = Junctions.fresh(3);
                Junctions.counts(x, new int[] {c[0], c[1], c[2]}, new int[] {c[3], c[4], c[5]});
                for (int turn = 0; turn < 9; turn++) {
                    x.setWeight(turn / 3, turn % 3, (open >> turn) & 1);
                }
                oneSmallJunction(x, c, open);
            }
        }
    }

    private static void oneSmallJunction(TurnEstimator x, int[] c, int open) {
        String what = "9, 24: turns " + open + " of counts " + java.util.Arrays.toString(c);
        int[] table = new int[9];
        boolean found = search(table, 0, c.clone(), open);
        CHECK.same(what, x.isPossible(), found);
        if (!found) {
            java.util.Arrays.fill(table, TurnEstimator.NONE);
        }
        table(what, x, table);
    }

    /** Tries every table, the lexicographically greatest first; left has the counts that are left. */
    private static boolean search(int[] table, int turn, int[] left, int open) {
        if (turn == 9) {
            int rest = 0;
            for (int count : left) {
                rest += count;
            }
            return rest == 0;
        }
        int from = turn / 3;
        int to = 3 + turn % 3;
        int most = ((open >> turn) & 1) == 0 ? 0 : Math.min(left[from], left[to]);
        for (int v = most; v >= 0; v--) {
            table[turn] = v;
            left[from] -= v;
            left[to] -= v;
            boolean found = search(table, turn + 1, left, open);
            left[from] += v;
            left[to] += v;
            if (found) {
                return true;
            }
        }
        return false;
    }
}
