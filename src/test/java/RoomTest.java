import com.sun.management.ThreadMXBean;
import java.lang.management.ManagementFactory;

/** All calls of one run live in one room: the dearest runs stay far below 7.3 million elements. */
final class RoomTest {
    private static final long BYTES = 8L << 20;

    public static void main(String[] args) {
        Runs runs = new Runs();
        layLargeTables();
        for (int keys = 32; keys <= 384; keys += 32) {
            long before = allocated();
            int calls = copyAgainAndAgain(keys);
            long bytes = allocated() - before;
            runs.due("at most 512 calls", calls <= 512, true);
            runs.due(keys + " keys copied again and again make " + bytes + " bytes: too many", bytes < BYTES, true);
        }
        long before = allocated();
        layLargeTables();
        long bytes = allocated() - before;
        runs.due("large TABLES again and again make " + bytes + " bytes: too many", bytes < BYTES, true);
        runs.end();
    }

    private static long allocated() {
        ThreadMXBean threads = (ThreadMXBean) ManagementFactory.getThreadMXBean();
        return threads.getThreadAllocatedBytes(Thread.currentThread().getId());
    }

    private static int copyAgainAndAgain(int keys) {
        KeyAtlas atlas = new KeyAtlas();
        atlas.make(2, 0, 0);
        for (int key = 0; key < keys; key++) {
            atlas.map(0, 0, key, key);
        }
        int calls = keys + 1;
        for (; calls + 3 <= 512; calls += 3) {
            atlas.make(0, 0, 0);
            atlas.map(1, 20, 0, 0);
            atlas.drop(1);
        }
        return calls;
    }

    private static void layLargeTables() {
        KeyAtlas atlas = new KeyAtlas();
        for (int calls = 0; calls + 3 <= 512; calls += 3) {
            atlas.make(0, 1000, 0);
            atlas.map(0, 0, 1, 1);
            atlas.drop(0);
        }
    }
}
