import com.sun.management.ThreadMXBean;
import java.lang.management.ManagementFactory;

/**
 * What the dearest calls make: rows are made once for an object and used again, so an object's 512 calls must stay far
 * below the room that all calls of a run share.
 */
public final class RoomTest {

    /** Some 93,000 elements of up to 8 bytes, and all that is small. */
    private static final long MOST_BYTES = 1_000_000;
    private static final long MOST_BYTES_OF_NEW = 8_000;

    private static final ThreadMXBean THREADS = (ThreadMXBean) ManagementFactory.getThreadMXBean();

    public static void main(String[] args) {
        playDearest(64);
        long before = THREADS.getCurrentThreadAllocatedBytes();
        DaughterTongues small = new DaughterTongues();
        long ofNew = THREADS.getCurrentThreadAllocatedBytes() - before;
        before = THREADS.getCurrentThreadAllocatedBytes();
        playDearest(512);
        long ofRun = THREADS.getCurrentThreadAllocatedBytes() - before;
        System.out.println("a new object: " + ofNew + " bytes; a run of the dearest calls: " + ofRun + " bytes");
        boolean isKept = ofNew < MOST_BYTES_OF_NEW && ofRun < MOST_BYTES && small.told(9) == 0;
        System.out.println(isKept ? "the room is kept" : "the room is not kept");
        System.exit(isKept ? 0 : 1);
    }

    /** Eight TONGUES, one under the other, each full of LAWS; then questions to all STEMS, each behind a change. */
    private static void playDearest(int calls) {
        DaughterTongues x = new DaughterTongues();
        x.feed('V' | '>' << 8 | 'a' << 16, 3);
        x.law();
        x.feed('C' | '>' << 8 | 'b' << 16, 3);
        x.law();
        for (int t = 0; t < 8; t++) {
            x.tongue(t - 1);
            for (int i = 0; i < 6; i++) {
                x.take(t, i % 2);
            }
        }
        x.match();
        for (int t = 0; t < 8; t++) {
            x.find(0, t, 64, 10);
        }
        x.pair(1, 8);
        for (int i = 80; i + 10 <= calls; i += 10) {
            x.vowel(1, i % 20 == 0);
            x.leans(0, 10);
            x.best(0, 10);
            x.lent(0, 10, 7);
            x.doubt(0, 10, 1);
            x.order(7, 0);
            x.back(7, 64);
            x.fewest();
            x.speeches(10);
            x.parted(0, 1);
        }
    }
}
