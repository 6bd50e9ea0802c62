import java.util.HashSet;
import java.util.Set;

/** Promise 25: the hash of the whole state. */
public final class DigestTest {
    private static final Check CHECK = new Check("DigestTest");

    public static void main(String[] args) {
        byHand();
        everyPartCounts();
        changesNothing();
        CHECK.end();
    }

    /** A list of values that was written down from the document, for example 1 behind its round. */
    private static void byHand() {
        TurnEstimator x = new TurnEstimator();
        x.setArms(3);
        x.setInflow(0, 10);
        x.setInflow(1, 6);
        x.setOutflow(1, 8);
        x.setOutflow(2, 8);
        x.iterate(1);
        // By turn: weight, thousandths of the estimate, rounded, possible.
        long[] values = {
            3, 10, 0, 6, 8, 0, 8,
            0, 0, 0, 0, 1, 8000, 6, 8, 1, 5000, 4, 2,
            1, 0, 0, 0, 0, 0, 0, 0, 1, 3000, 6, 6,
            1, 0, 0, 0, 1, 0, 0, 0, 0, 0, 0, 0,
            0, -1, 1, 3000, 1, 4,
        };
        CHECK.same("25: by hand", x.digest(), hash(values));
        x.setOutflow(2, 7);
        x.setInflow(2, 5);
        x.setWeight(2, 1, 0);
        x.setWeight(2, 0, 0);
        long[] impossible = {
            3, 10, 0, 6, 8, 5, 7,
            0, 0, 0, -1, 1, 1000, 5, -1, 1, 1000, 5, -1,
            1, 1000, 3, -1, 0, 0, 0, -1, 1, 1000, 3, -1,
            0, 0, 0, -1, 0, 0, 0, -1, 0, 0, 0, -1,
            6, 3, 0, 8000, 1, 3 + 3 + 1,
        };
        CHECK.same("25: by hand, not possible", x.digest(), hash(impossible));
    }

    private static long hash(long[] values) {
        long hash = 1873;
        for (long v : values) {
            hash = 31 * hash + v;
        }
        return hash;
    }

    private static void everyPartCounts() {
        Set<Long> seen = new HashSet<>();
        TurnEstimator x = new TurnEstimator();
        for (int n = 3; n <= 6; n++) {
            x.setArms(n);
            seen.add(x.digest());
        }
        CHECK.same("25: arms", seen.size(), 4);
        for (int arm = 0; arm < 6; arm++) {
            x.setInflow(arm, 60);
            seen.add(x.digest());
            x.setOutflow(arm, 60);
            seen.add(x.digest());
        }
        CHECK.same("25: counts", seen.size(), 16);
        for (int turn = 0; turn < 36; turn++) {
            x.setWeight(turn / 6, turn % 6, 2 + turn);
            seen.add(x.digest());
        }
        CHECK.same("25: weights", seen.size(), 52);
        for (int k = 0; k < 20; k++) {
            x.iterate(1);
            seen.add(x.digest());
        }
        CHECK.same("25: rounds", seen.size(), 72);
    }

    private static void changesNothing() {
        TurnEstimator x = new TurnEstimator();
        x.setInflow(0, 33);
        x.setOutflow(1, 33);
        x.iterate(3);
        String before = Check.state(x);
        CHECK.same("25: twice", x.digest() == x.digest(), true);
        CHECK.same("25: the state behind it", Check.state(x), before);
        x.iterate(1);
        x.reset();
        TurnEstimator y = new TurnEstimator();
        y.setOutflow(1, 33);
        y.setInflow(0, 33);
        CHECK.same("25: the state alone counts, not how it came", x.digest(), y.digest());
    }
}
