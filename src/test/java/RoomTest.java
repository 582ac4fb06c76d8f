import java.lang.management.ManagementFactory;

/** A run's calls share one room that is never cleared: calls must make no objects, and an object must stay small. */
public final class RoomTest {
    private static final com.sun.management.ThreadMXBean BEAN =
            (com.sun.management.ThreadMXBean) ManagementFactory.getThreadMXBean();

    private static long answers = 0;

    private static long allocated() {
        return BEAN.getThreadAllocatedBytes(Thread.currentThread().getId());
    }

    private static void dearCalls(EdgeIdeals x, int round) {
        answers += x.setVertexCount(7) + x.build(round % 6) + x.toggleEdge(round % 7, (round + 2) % 7);
        answers += x.symbolicGeneratorCount(3) + x.powersAgree(2) + x.firstNonLinearStep(3, 1234567);
        answers += x.bettiNumber(2, 7654321, 2) + x.orderedGenerator(1, 3216547, 1) + x.matchingNumber();
        answers += x.addSymbolicTest(2) + x.addPowerTest(3) + x.addAndTest(0, 1) + x.passCount(2) + x.passing(2, 99);
        answers += x.fillWithGenerators(1) + x.divideListBy(round % 7) + x.rotateList(3) + x.reverseList();
        answers += x.hittingNumber() + x.polarized(0) + x.formattedLength() + x.formattedByte(3);
        answers += x.feed(97) + x.feed(44) + x.feed(98) + x.parse() + x.saveList(round % 4) + x.newArray(1, 30);
        answers += x.firstMismatch(1, 2) + x.takeSnapshot() + x.restoreSnapshot() + x.eliminationLength(1);
        answers += x.componentCount() + x.hasOddCycle() + x.coverCount() + x.countInSymbolicPower(2, 9);
    }

    public static void main(String[] args) {
        dearCalls(new EdgeIdeals(), 1);
        allocated();
        long before = allocated();
        EdgeIdeals x = new EdgeIdeals();
        long made = allocated() - before;
        // 50,000 ints.
        Check.dueTrue("a new object takes at most 200,000 bytes, it took " + made, made <= 200_000);
        before = allocated();
        for (int round = 0; round < 20; round++) {
            dearCalls(x, round);
        }
        made = allocated() - before;
        // The machine itself may take a little while it measures.
        Check.dueTrue("700 calls make no objects, but took " + made + " bytes", made <= 4_096);
        Check.dueTrue("answers were given", answers != 0);
        Check.finish();
    }
}
