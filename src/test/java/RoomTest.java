import com.sun.management.ThreadMXBean;
import java.lang.management.ManagementFactory;

/** All calls of a run share one room: what a whole run takes is what its constructor takes. */
public final class RoomTest {
    private static final long MOST_BYTES_OF_A_RUN = 100_000;

    public static void main(String[] args) {
        ThreadMXBean threads = (ThreadMXBean) ManagementFactory.getThreadMXBean();
        long answers = run();
        long before = threads.getThreadAllocatedBytes(Thread.currentThread().getId());
        answers -= run();
        long taken = threads.getThreadAllocatedBytes(Thread.currentThread().getId()) - before;
        Due.is("the same run again", answers, 0);
        Due.is("a run took " + taken + " bytes: more than it may", taken > MOST_BYTES_OF_A_RUN ? 1 : 0, 0);
        Due.end();
    }

    /** Some 500 calls, of each kind. */
    private static long run() {
        StrideBanks x = new StrideBanks();
        long sum = 0;
        for (int i = 0; i < 20; i++) {
            sum = sum * 31 + x.set(1, 1 + i % 12) + x.add(i, 1 + i, 20) + x.add(3, 8, 9) + x.run(30) + x.stride(0, i);
            sum = sum * 31 + x.put(0x312b312a35L) + x.fault() + x.read() + x.wipe() + x.put(0x352b312a35L) + x.read();
            sum = sum * 31 + x.bankOf(i) + x.stream(0, 8) + x.bank(1, 3) + x.count(9) + x.untilDone() + x.alone(0, 3);
            sum = sum * 31 + x.bestStride(0, 0, 63) + x.bestMap(1) + x.clashes(0, 1) + x.save(i % 2) + x.restore(i % 2);
            sum = sum * 31 + x.undo() + x.drop(0) + x.reset();
        }
        return sum;
    }
}
