import java.math.BigInteger;

/** The boundary cases of promises 22, 23 and 25: the rounded table and the hash. */
final class RoundingBoundaries {
    private RoundingBoundaries() {
    }

    // ---- promise 22

    @Says({"Returns a number of the rounded table.", "Returns the number of vehicles.",
        "The rounded table has whole numbers."})
    static void promise22NoVehiclesOneAndTheMost(Check check) {
        // The shares of 9999 vehicles among the turns to the other arms, the lowest ones first.
        int[][] most = {{5000, 4999}, {3333, 3333, 3333}, {2500, 2500, 2500, 2499}, {2000, 2000, 2000, 2000, 1999}};
        for (int n = 3; n <= 6; n++) {
            for (int from = 0; from < n; from++) {
                TurnEstimator x = Junctions.fresh(n);
                String what = n + " arms, from " + from;
                row(check, what + ", an inflow of 0", x, from, new int[n]);
                x.setInflow(from, 1);
                row(check, what + ", an inflow of 1", x, from, withoutTurnBack(from, n, 1));
                x.setInflow(from, 9999);
                row(check, what + ", an inflow of 9999", x, from, withoutTurnBack(from, n, most[n - 3]));
            }
        }
    }

    /** The numbers of the open turns in their order, 0 for the turn back and for those behind them. */
    private static int[] withoutTurnBack(int from, int n, int... numbers) {
        int[] row = new int[n];
        int next = 0;
        for (int to = 0; to < n; to++) {
            if (to != from && next < numbers.length) {
                row[to] = numbers[next];
                next++;
            }
        }
        return row;
    }

    private static void row(Check check, String what, TurnEstimator x, int from, int... due) {
        for (int to = 0; to < due.length; to++) {
            check.same(what + ", rounded(" + from + ", " + to + ")", x.rounded(from, to), due[to]);
        }
    }

    @Says("For an arm whose row sum is not greater than 0.0, all numbers are 0.")
    static void promise22NoRowSum(Check check) {
        for (int n = 3; n <= 6; n++) {
            for (int from = 0; from < n; from++) {
                TurnEstimator barred = Junctions.barred(n);
                barred.setInflow(from, 9999);
                row(check, n + " arms, all weights are 0", barred, from, new int[n]);
                TurnEstimator empty = Junctions.fresh(n);
                empty.setInflow(from, 9999);
                empty.iterate(1);
                row(check, n + " arms, nobody leaves, behind a round", empty, from, new int[n]);
                TurnEstimator single = Junctions.barred(n);
                single.setWeight(from, n - 1, 1);
                single.setInflow(from, 9999);
                int[] due = new int[n];
                due[n - 1] = 9999;
                row(check, n + " arms, one open turn", single, from, due);
            }
        }
    }

    @Says("For each arm with a row sum s greater than 0.0, let x be (the estimate of a turn from it) * (its inflow) / s,"
        + " computed from left to right.")
    static void promise22ATinyRowSum(Check check) {
        TurnEstimator x = EstimateBoundaries.tinyRowSum();
        check.same("the row sum", x.sum(0, false) > 0.0 && x.sum(0, false) < 1e-7, true);
        row(check, "one vehicle", x, 0, 0, 0, 0, 0, 0, 1);
        row(check, "9999 vehicles", x, 1, 0, 0, 0, 0, 0, 9999);
        TurnEstimator two = Junctions.barred(6);
        for (int from = 0; from < 6; from++) {
            Junctions.weightsFrom(two, from, 0, 1, 0, 0, 1, 0);
            two.setInflow(from, from == 3 ? 5 : 9999);
        }
        two.setOutflow(1, 1);
        two.setOutflow(4, 1);
        two.iterate(1);
        check.same("the row sum", two.sum(3, false) > 0.0 && two.sum(3, false) < 1e-3, true);
        row(check, "five vehicles, 2.5 and 2.5", two, 3, 0, 3, 0, 0, 2, 0);
    }

    @Says("Each turn from the arm gets x rounded down.")
    static void promise22WholeNumbersStay(Check check) {
        TurnEstimator x = Junctions.fresh(4);
        Junctions.weightsFrom(x, 0, 1, 2, 3, 4);
        x.setInflow(0, 10);
        row(check, "1.0 2.0 3.0 4.0", x, 0, 1, 2, 3, 4);
        x.setInflow(0, 15);
        row(check, "1.5 3.0 4.5 6.0", x, 0, 2, 3, 4, 6);
        x.setInflow(0, 9990);
        row(check, "999.0 1998.0 2997.0 3996.0", x, 0, 999, 1998, 2997, 3996);
        Junctions.weightsFrom(x, 0, 99, 0, 0, 1);
        x.setInflow(0, 99);
        row(check, "98.01 and 0.99", x, 0, 98, 0, 0, 1);
        x.setInflow(0, 100);
        row(check, "99.0 and 1.0", x, 0, 99, 0, 0, 1);
        x.setInflow(0, 101);
        row(check, "99.99 and 1.01", x, 0, 100, 0, 0, 1);
    }

    @Says("Then, as long as the sum of these numbers is less than the inflow, the next turn in the following order gets 1"
        + " more, each turn once at most: the turns that are not barred, by the fraction (x minus x rounded down), the"
        + " greatest one first; of equal fractions, by the lowest arm to which they lead.")
    static void promise22TheGreatestFractionFirst(Check check) {
        TurnEstimator x = Junctions.fresh(4);
        Junctions.weightsFrom(x, 0, 1, 2, 3, 4);
        x.setInflow(0, 11);
        row(check, "1.1 2.2 3.3 4.4", x, 0, 1, 2, 3, 5);
        x.setInflow(0, 12);
        row(check, "1.2 2.4 3.6 4.8", x, 0, 1, 2, 4, 5);
        x.setInflow(0, 17);
        row(check, "1.7 3.4 5.1 6.8", x, 0, 2, 3, 5, 7);
        x.setInflow(0, 3);
        row(check, "0.3 0.6 0.9 1.2", x, 0, 0, 1, 1, 1);
        x.setInflow(0, 19);
        row(check, "1.9 3.8 5.7 7.6, each once", x, 0, 2, 4, 6, 7);
        Junctions.weightsFrom(x, 0, 4, 3, 2, 1);
        x.setInflow(0, 19);
        row(check, "7.6 5.7 3.8 1.9, each once", x, 0, 7, 6, 4, 2);
    }

    @Says("Then, as long as the sum of these numbers is less than the inflow, the next turn in the following order gets 1"
        + " more, each turn once at most: the turns that are not barred, by the fraction (x minus x rounded down), the"
        + " greatest one first; of equal fractions, by the lowest arm to which they lead.")
    static void promise22EqualFractions(Check check) {
        TurnEstimator x = Junctions.fresh(4);
        Junctions.weightsFrom(x, 2, 1, 1, 1, 1);
        int[][] rows = {{0, 0, 0, 0}, {1, 0, 0, 0}, {1, 1, 0, 0}, {1, 1, 1, 0}, {1, 1, 1, 1}, {2, 1, 1, 1}};
        for (int inflow = 0; inflow < rows.length; inflow++) {
            x.setInflow(2, inflow);
            row(check, "quarters of " + inflow, x, 2, rows[inflow]);
        }
        x.setWeight(2, 0, 0);
        x.setWeight(2, 2, 0);
        x.setInflow(2, 7);
        row(check, "barred turns get nothing, 3.5 and 3.5", x, 2, 0, 4, 0, 3);
        x.setInflow(2, 1);
        row(check, "barred turns get nothing, 0.5 and 0.5", x, 2, 0, 1, 0, 0);
    }

    @Says("For each arm with a row sum s greater than 0.0, let x be (the estimate of a turn from it) * (its inflow) / s,"
        + " computed from left to right.")
    static void promise22FromLeftToRight(Check check) {
        TurnEstimator x = Junctions.fresh(4);
        Junctions.weightsFrom(x, 0, 0, 1, 1, 10);
        x.setInflow(0, 28);
        // Thrice a third: in every other order the fraction of the last turn is the greatest.
        row(check, "1, 1 and 10 of 12", x, 0, 0, 3, 2, 23);
        TurnEstimator y = Junctions.fresh(3);
        y.setWeight(1, 0, 15);
        y.setWeight(1, 2, 27);
        y.setInflow(1, 49);
        row(check, "15 and 27 of 42", y, 1, 18, 0, 31);
    }

    @Says("For each arm with a row sum s greater than 0.0, let x be (the estimate of a turn from it) * (its inflow) / s,"
        + " computed from left to right.")
    static void promise22TheEstimateNotTheWeights(Check check) {
        TurnEstimator x = Junctions.fresh(3);
        Junctions.counts(x, new int[] {10, 6, 0}, new int[] {0, 8, 8});
        row(check, "the weights", x, 0, 0, 5, 5);
        row(check, "the weights", x, 1, 3, 0, 3);
        x.iterate(1);
        row(check, "8.0 and 5.0 of 13.0", x, 0, 0, 6, 4);
        row(check, "3.0 of 3.0", x, 1, 0, 0, 6);
        row(check, "an inflow of 0", x, 2, 0, 0, 0);
        x.reset();
        row(check, "the weights again", x, 0, 0, 5, 5);
    }

    /** Rounding errors alone make x miss the inflow, so the sum never misses it by a whole vehicle. */
    @Says("(If the sum of the numbers is greater than the inflow, or still less, it stays so.)")
    static void promise22RoundingErrors(Check check) {
        TurnEstimator x = Junctions.fresh(3);
        Junctions.counts(x, new int[] {3, 3, 0}, new int[] {2, 2, 0});
        x.setWeight(1, 1, 7);
        x.iterate(4);
        check.same("x is less than 3.0", x.estimate(0, 1) * 3 / x.sum(0, false), 2.9999999999999996);
        row(check, "and the turn gets one more", x, 0, 0, 3, 0);
        TurnEstimator y = Junctions.fresh(3);
        Junctions.counts(y, new int[] {3, 1, 0}, new int[] {1, 2, 3});
        Junctions.weightsFrom(y, 0, 0, 8, 0);
        Junctions.weightsFrom(y, 1, 3, 10, 1);
        y.iterate(3);
        check.same("x is greater than 3.0", y.estimate(0, 1) * 3 / y.sum(0, false), 3.0000000000000004);
        row(check, "and is rounded down", y, 0, 0, 3, 0);
    }

    @Says({"arm number", "Throws `IndexOutOfBoundsException` if one of the arms does not exist"})
    static void promise22ArmsThatDoNotExist(Check check) {
        for (int n = 3; n <= 6; n++) {
            int arms = n;
            Class<?> due = IndexOutOfBoundsException.class;
            for (int arm : Junctions.noArms(n)) {
                String what = n + " arms, arm " + arm;
                check.refused(what + " from", () -> Junctions.busy(arms), due, x -> x.rounded(arm, 0));
                check.refused(what + " to", () -> Junctions.busy(arms), due, x -> x.rounded(1, arm));
                check.refused(what + " from and to", () -> Junctions.busy(arms), due, x -> x.rounded(arm, arm));
                check.refused(what + " to, no row sum", () -> Junctions.barred(arms), due, x -> x.rounded(0, arm));
            }
        }
    }

    // ---- promise 23

    @Says({"Returns how far the rounded table is from the outflows.",
        "Returns the sum, over all arms, of the absolute difference between the sum of the numbers of the turns to the"
            + " arm and its outflow."})
    static void promise23LeastAndGreatest(Check check) {
        for (int n = 3; n <= 6; n++) {
            check.same(n + " arms, all counts are 0", Junctions.fresh(n).roundedMisfit(), 0);
            TurnEstimator x = Junctions.barred(n);
            check.same(n + " arms, all counts and weights are 0", x.roundedMisfit(), 0);
            for (int arm = 0; arm < n; arm++) {
                x.setOutflow(arm, 9999);
            }
            check.same(n + " arms, nobody enters", x.roundedMisfit(), 9999 * n);
            for (int arm = 0; arm < n; arm++) {
                x.setInflow(arm, 9999);
            }
            check.same(n + " arms, all weights are 0", x.roundedMisfit(), 9999 * n);
            for (int arm = 0; arm < n; arm++) {
                x.setWeight(arm, 0, 1);
            }
            check.same(n + " arms, all to arm 0", x.roundedMisfit(), 2 * 9999 * (n - 1));
            x.setOutflow(0, 0);
            check.same(n + " arms, where nobody leaves", x.roundedMisfit(), 9999 * (2 * n - 1));
            x.iterate(1);
            check.same(n + " arms, behind a round", x.roundedMisfit(), 9999 * (n - 1));
        }
    }

    @Says("Returns the sum, over all arms, of the absolute difference between the sum of the numbers of the turns to the"
        + " arm and its outflow.")
    static void promise23TooManyAndTooFew(Check check) {
        TurnEstimator x = new TurnEstimator();
        x.setOutflow(3, 7);
        check.same("too few at arm 3", x.roundedMisfit(), 7);
        x.setInflow(0, 3);
        check.same("one of three to arm 3", x.roundedMisfit(), 1 + 1 + 6);
        x.setInflow(1, 30);
        check.same("too many and too few", x.roundedMisfit(), 10 + 1 + 11 + 4);
        x.iterate(1);
        check.same("all to arm 3", x.roundedMisfit(), 33 - 7);
        check.same("it changes nothing", x.rounds(), 1);
    }

    // ---- promise 25

    @Says({"Computes a hash of the whole state.", "The hash starts at 1873.", "Returns the hash.",
        "The values are: arms; for each arm its inflow and its outflow; for each turn, ordered by the arm from which it"
            + " leads, then by the arm to which it leads: its weight, its estimate times 1000.0 rounded down, rounded,"
            + " and possible; imbalance; crowdedSet; rounds; the misfit times 1000.0 rounded down; busiestTurn;"
            + " roundedMisfit."})
    static void promise25OfThreeArmsByHand(Check check) {
        TurnEstimator x = Junctions.fresh(3);
        Junctions.counts(x, new int[] {10, 6, 0}, new int[] {0, 8, 8});
        x.iterate(1);
        // By turn: weight, thousandths of the estimate, rounded, possible.
        check.same("possible counts", x.digest(), hash(
            3, 10, 0, 6, 8, 0, 8,
            0, 0, 0, 0, 1, 8000, 6, 8, 1, 5000, 4, 2,
            1, 0, 0, 0, 0, 0, 0, 0, 1, 3000, 6, 6,
            1, 0, 0, 0, 1, 0, 0, 0, 0, 0, 0, 0,
            0, -1, 1, 3000, 1, 4));
    }

    @Says("The values are: arms; for each arm its inflow and its outflow; for each turn, ordered by the arm from which it"
        + " leads, then by the arm to which it leads: its weight, its estimate times 1000.0 rounded down, rounded,"
        + " and possible; imbalance; crowdedSet; rounds; the misfit times 1000.0 rounded down; busiestTurn;"
        + " roundedMisfit.")
    static void promise25NothingToReturn(Check check) {
        check.same("all counts and weights are 0", Junctions.barred(3).digest(), hash(
            3, 0, 0, 0, 0, 0, 0,
            0, 0, 0, 0, 0, 0, 0, 0, 0, 0, 0, 0,
            0, 0, 0, 0, 0, 0, 0, 0, 0, 0, 0, 0,
            0, 0, 0, 0, 0, 0, 0, 0, 0, 0, 0, 0,
            0, -1, 0, 0, -1, 0));
        TurnEstimator x = Junctions.barred(3);
        x.setOutflow(2, 9999);
        x.setInflow(1, 9998);
        check.same("counts that are not possible", x.digest(), hash(
            3, 0, 0, 9998, 0, 0, 9999,
            0, 0, 0, -1, 0, 0, 0, -1, 0, 0, 0, -1,
            0, 0, 0, -1, 0, 0, 0, -1, 0, 0, 0, -1,
            0, 0, 0, -1, 0, 0, 0, -1, 0, 0, 0, -1,
            -1, 2, 0, 9999000, -1, 9999));
    }

    @Says("The values are: arms; for each arm its inflow and its outflow; for each turn, ordered by the arm from which it"
        + " leads, then by the arm to which it leads: its weight, its estimate times 1000.0 rounded down, rounded,"
        + " and possible; imbalance; crowdedSet; rounds; the misfit times 1000.0 rounded down; busiestTurn;"
        + " roundedMisfit.")
    static void promise25ThousandthsAreRoundedDown(Check check) {
        TurnEstimator x = Junctions.barred(3);
        for (int from = 0; from < 3; from++) {
            x.setWeight(from, 2, 1);
            x.setInflow(from, 1);
        }
        x.setOutflow(2, 2);
        x.iterate(1);
        check.same("two thirds are 666 thousandths", x.digest(), hash(
            3, 1, 0, 1, 0, 1, 2,
            0, 0, 0, -1, 0, 0, 0, -1, 1, 666, 1, -1,
            0, 0, 0, -1, 0, 0, 0, -1, 1, 666, 1, -1,
            0, 0, 0, -1, 0, 0, 0, -1, 1, 666, 1, -1,
            1, 7, 1, 333, 2, 1));
        TurnEstimator y = Junctions.fresh(3);
        Junctions.weightsFrom(y, 0, 0, 3, 2);
        y.setInflow(0, 11);
        y.setOutflow(1, 1);
        y.iterate(1);
        check.same("0.9999999999999999 is 999 thousandths", y.digest(), hash(
            3, 11, 0, 0, 1, 0, 0,
            0, 0, 0, -1, 3, 999, 11, -1, 2, 0, 0, -1,
            1, 0, 0, -1, 0, 0, 0, -1, 1, 0, 0, -1,
            1, 0, 0, -1, 1, 0, 0, -1, 0, 0, 0, -1,
            10, 1, 1, 10000, 1, 10));
    }

    @Says("For each value v of the following list, in order, the hash becomes 31 * hash + v, in long arithmetic with"
        + " overflow.")
    static void promise25TheHashWrapsRound(Check check) {
        for (int n = 3; n <= 6; n++) {
            long[] values = new long[1 + 2 * n + 4 * n * n + 6];
            TurnEstimator x = Junctions.fresh(n);
            int at = 0;
            values[at++] = n;
            for (int arm = 0; arm < n; arm++) {
                x.setInflow(arm, 9999);
                x.setOutflow(arm, 9999);
                x.setWeight(arm, arm, 99);
                values[at++] = 9999;
                values[at++] = 9999;
            }
            for (int turn = 0; turn < n * n; turn++) {
                boolean back = turn / n == turn % n;
                values[at++] = back ? 99 : 1;
                values[at++] = back ? 99000 : 1000;
                values[at++] = x.rounded(turn / n, turn % n);
                values[at++] = back ? 9999 : 0;
            }
            long[] last = {0, -1, 0, 1000 * (9999 - 99 - (n - 1)), 0, x.roundedMisfit()};
            System.arraycopy(last, 0, values, at, last.length);
            BigInteger endless = endlessHash(values);
            check.same(n + " arms, more than a long holds", endless.bitLength() > 64, true);
            check.same(n + " arms, the greatest counts", x.digest(), endless.longValue());
        }
        int negative = 0;
        for (int n = 3; n <= 6; n++) {
            negative += Junctions.fresh(n).digest() < 0 ? 1 : 0;
            negative += Junctions.busy(n).digest() < 0 ? 1 : 0;
        }
        check.same("some hashes are negative, some not", negative > 0 && negative < 8, true);
    }

    @Says("Computes a hash of the whole state.")
    static void promise25ItChangesNothing(Check check) {
        for (int n = 3; n <= 6; n++) {
            TurnEstimator x = Junctions.busy(n);
            TurnEstimator y = Junctions.busy(n);
            long first = x.digest();
            check.same(n + " arms, twice", x.digest(), first);
            check.same(n + " arms, the same state", y.digest(), first);
            check.same(n + " arms, the state behind it", Check.state(x), Check.state(y));
            x.iterate(1);
            x.reset();
            x.iterate(2);
            check.same(n + " arms, how the state came does not matter", x.digest(), first);
        }
    }

    private static long hash(long... values) {
        return endlessHash(values).longValue();
    }

    private static BigInteger endlessHash(long[] values) {
        BigInteger hash = BigInteger.valueOf(1873);
        for (long v : values) {
            hash = hash.multiply(BigInteger.valueOf(31)).add(BigInteger.valueOf(v));
        }
        return hash;
    }
}
