import java.util.Arrays;

/** Runs of 512 calls, wrong ones among them, the same on a TurnEstimator and on a SlowEstimator. */
public final class ReferenceTest {
    private static final Check CHECK = new Check("ReferenceTest");
    private static final int RUNS = 500;
    private static final int CALLS = 512;

    /**
     * How often each call is made, its name, and what its arguments are: n arms, a arm, v vehicles,
     * w weight, p percentage, s set, r rounds, t thousandths, l limit, b boolean.
     */
    private static final String[] KINDS = {
        "1 setArms n", "2 arms", "8 setInflow av", "8 setOutflow av", "16 setWeight aaw", "3 scale p", "3 imbalance",
        "5 isPossible", "5 crowdedSet", "6 excess s", "10 iterate r", "10 fit tl", "3 reset", "3 rounds",
        "12 estimate aa", "8 sum ab", "5 misfit", "6 share aa", "8 crossRatio aaaa", "5 busiestTurn", "12 rounded aa",
        "5 roundedMisfit", "12 possible aa", "8 digest",
    };

    private static long seed;
    private static int callsLeft;
    private static TurnEstimator x;
    private static SlowEstimator slow;

    public static void main(String[] args) throws IllegalAccessException {
        int all = 0;
        for (String kind : KINDS) {
            all += Integer.parseInt(kind.split(" ")[0]);
        }
        for (int run = 0; run < RUNS; run++) {
            seed = 77777L * run + 12345L;
            x = new TurnEstimator();
            slow = new SlowEstimator();
            callsLeft = CALLS;
            while (callsLeft > 0) {
                if (below(40) == 0) {
                    balance(run);
                }
                oneCall(run, below(all));
            }
        }
        CHECK.end();
    }

    private static int below(int bound) {
        seed = seed * 6364136223846793005L + 1442695040888963407L;
        return (int) Math.floorMod(seed >>> 33, (long) bound);
    }

    private static void oneCall(int run, int choice) throws IllegalAccessException {
        int left = choice;
        for (String kind : KINDS) {
            String[] parts = kind.split(" ");
            left -= Integer.parseInt(parts[0]);
            if (left < 0) {
                both(run, parts[1], arguments(parts.length < 3 ? "" : parts[2], run));
                return;
            }
        }
    }

    private static Object[] arguments(String kinds, int run) {
        Object[] arguments = new Object[kinds.length()];
        for (int k = 0; k < arguments.length; k++) {
            char kind = kinds.charAt(k);
            arguments[k] = kind == 'b' ? (Object) (below(2) == 0) : (Object) argument(kind, run);
        }
        return arguments;
    }

    private static int argument(char kind, int run) {
        int n = slow.arms();
        int most = new int[] {4, 40, 1000, 9999}[run % 4];
        return switch (kind) {
            case 'n' -> oneOf(3, 6, below(4) + 3);
            case 'a' -> oneOf(0, n - 1, below(n));
            case 'v' -> oneOf(0, 9999, below(most + 1));
            case 'w' -> oneOf(0, 99, below(3) == 0 ? 0 : below(100));
            case 'p' -> oneOf(0, 300, below(301));
            case 's' -> oneOf(0, (1 << n) - 1, below(1 << n));
            case 'r' -> oneOf(1, 50, below(50) + 1);
            case 't' -> oneOf(0, 100000, below(2) == 0 ? below(100001) : below(50));
            default -> oneOf(1, 100, below(100) + 1);
        };
    }

    /** Mostly the ordinary value; sometimes an end of the range, sometimes one outside it. */
    private static int oneOf(int least, int greatest, int ordinary) {
        return switch (below(60)) {
            case 0 -> least - 1;
            case 1 -> greatest + 1;
            case 2 -> below(2) == 0 ? Integer.MIN_VALUE : Integer.MAX_VALUE;
            case 3, 4 -> least;
            case 5, 6 -> greatest;
            default -> ordinary;
        };
    }

    /** Sets counts that some table fits, so that possible tables are often looked at. */
    private static void balance(int run) throws IllegalAccessException {
        int n = slow.arms();
        int[] in = new int[n];
        int[] out = new int[n];
        for (int from = 0; from < n; from++) {
            for (int to = 0; to < n; to++) {
                int v = slow.isOpen(from, to) && below(2) == 1 ? below(run % 2 == 0 ? 9 : 1600) : 0;
                in[from] += v;
                out[to] += v;
            }
        }
        for (int arm = 0; arm < n; arm++) {
            both(run, "setInflow", new Object[] {arm, in[arm]});
            both(run, "setOutflow", new Object[] {arm, out[arm]});
        }
    }

    private static void both(int run, String name, Object[] arguments) throws IllegalAccessException {
        if (callsLeft == 0) {
            return;
        }
        callsLeft--;
        String what = "run " + run + ", call " + (CALLS - callsLeft) + ", " + name + Arrays.toString(arguments);
        CHECK.same(what, Calls.answer(x, name, arguments), Calls.answer(slow, name, arguments));
    }
}
