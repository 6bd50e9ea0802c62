import com.sun.management.ThreadMXBean;
import java.lang.management.ManagementFactory;

/** No call that throws nothing makes an object: all calls of one run share one small room. */
public final class RoomTest {
    private static final Check CHECK = new Check("RoomTest");
    private static final int OBJECTS = 10;
    private static final int TIMES = 400;
    private static double sink = 0.0;

    public static void main(String[] args) {
        if (!(ManagementFactory.getThreadMXBean() instanceof ThreadMXBean bean) || !bean.isThreadAllocatedMemorySupported()) {
            System.out.println("RoomTest: this machine does not tell what is allocated");
            return;
        }
        long id = Thread.currentThread().getId();
        for (int call = 0; call < 24; call++) {
            TurnEstimator[] objects = new TurnEstimator[OBJECTS];
            for (int k = 0; k < OBJECTS; k++) {
                objects[k] = Junctions.fresh(6);
                once(objects[k], call);
            }
            bean.getThreadAllocatedBytes(id);
            long before = bean.getThreadAllocatedBytes(id);
            for (int k = 0; k < OBJECTS * TIMES; k++) {
                once(objects[k % OBJECTS], call);
            }
            long bytes = bean.getThreadAllocatedBytes(id) - before;
            // The least object has 16 bytes; the bean's own few do not count.
            CHECK.same("call " + call + " makes no object", bytes < 8L * OBJECTS * TIMES, true);
        }
        CHECK.same("the answers were used", sink == sink, true);
        CHECK.end();
    }

    private static void once(TurnEstimator x, int call) {
        switch (call) {
            case 0 -> sink += x.setArms(6);
            case 1 -> sink += x.arms();
            case 2 -> sink += x.setInflow(1, 500);
            case 3 -> sink += x.setOutflow(4, 500);
            case 4 -> sink += x.setWeight(1, 2, 7);
            case 5 -> sink += x.scale(100);
            case 6 -> sink += x.imbalance();
            case 7 -> sink += x.isPossible() ? 1 : 0;
            case 8 -> sink += x.crowdedSet();
            case 9 -> sink += x.excess(63);
            case 10 -> sink += x.iterate(1);
            case 11 -> sink += x.fit(1, 1);
            case 12 -> sink += x.reset();
            case 13 -> sink += x.rounds();
            case 14 -> sink += x.estimate(1, 2);
            case 15 -> sink += x.sum(1, true);
            case 16 -> sink += x.misfit();
            case 17 -> sink += x.share(1, 2);
            case 18 -> sink += x.crossRatio(0, 1, 2, 3);
            case 19 -> sink += x.busiestTurn();
            case 20 -> sink += x.rounded(1, 2);
            case 21 -> sink += x.roundedMisfit();
            case 22 -> sink += x.possible(1, 4);
            default -> sink += x.digest();
        }
    }
}
