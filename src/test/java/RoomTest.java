import com.sun.management.ThreadMXBean;
import java.lang.management.ManagementFactory;

/**
 * All calls of a run live in one room, so only what builds or writes may make objects.
 * The virtual machine counts the bytes that this thread has taken; the class is deterministic, and so is the count.
 */
public final class RoomTest {
    private static final int CALLS = 512;
    /** What the machine itself may take beside the calls in all, far less than 8 bytes a call. */
    private static final int SLACK = 2048;
    /** An object with six machines, 24 cues and its lists, generously. */
    private static final int MOST_OF_AN_OBJECT = 8192;

    private interface Made {
        Object object(int number);
    }

    private static long bytes(Made made) {
        ThreadMXBean threads = (ThreadMXBean) ManagementFactory.getThreadMXBean();
        long self = Thread.currentThread().getId();
        long before = threads.getThreadAllocatedBytes(self);
        for (int i = 0; i < CALLS; i++) {
            made.object(i);
        }
        return threads.getThreadAllocatedBytes(self) - before;
    }

    private static int answers(OperaMachines x, int number) {
        switch (number % 12) {
            case 0: return x.bar() + x.end();
            case 1: return x.place(number % 6, 2400 - number);
            case 2: return x.placeAtBar(number % 6, 30);
            case 3: return x.meeting() + x.meeters();
            case 4: return x.worker(number % 24);
            case 5: return x.takes(number % 24);
            case 6: return x.clashes(number % 6);
            case 7: return x.overtime(number % 6);
            case 8: return x.isFine() ? 1 : 0;
            case 9: return x.fastest();
            case 10: return x.setTempo(50) + x.substitute(number % 6, -1);
            default: return x.strike(number % 6, false) ? 1 : 0;
        }
    }

    private static void answersMakeNothing() {
        OperaMachines x = Stages.fullOfAll();
        int[] kept = new int[1];
        Made made = number -> {
            kept[0] += answers(x, number);
            return kept;
        };
        bytes(made);
        long taken = bytes(made);
        Tries.due(true, taken + " bytes of " + CALLS + " answers: that they are few", taken < SLACK);
    }

    private static void anObjectIsSmall() {
        Made made = number -> Stages.fullOfAll();
        bytes(made);
        long each = bytes(made) / CALLS;
        Tries.due(true, each + " bytes of an object with all that it may have: that they are few",
                each < MOST_OF_AN_OBJECT);
    }

    public static void main(String[] args) {
        Tries.test("room", RoomTest::answersMakeNothing);
        Tries.test("room", RoomTest::anObjectIsSmall);
        Tries.end("RoomTest");
    }
}
