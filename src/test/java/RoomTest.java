import com.sun.management.ThreadMXBean;
import java.lang.management.ManagementFactory;

/** A run of calls keeps its room: what is made, is made with the object, and calls use it again. */
public final class RoomTest {
    private static final ThreadMXBean THREADS = (ThreadMXBean) ManagementFactory.getThreadMXBean();
    // With the calls that make a watch, and those of a last row of spells, an object stays below 512.
    private static final int CALLS = 240;

    private static long made() {
        return THREADS.getThreadAllocatedBytes(Thread.currentThread().getId());
    }

    private static HushWatch full() {
        HushWatch w = new HushWatch();
        Check.tape(w, "law square;bound 9999999;goal 9999" + ";site 1,1".repeat(8));
        w.text(0);
        for (int i = 0; i < 4; i++) {
            Check.script(w, "move 0,99,99;" + "sync;".repeat(10) + "move 1,-9,9");
        }
        return w;
    }

    private static void dearCalls(HushWatch w) {
        for (int i = 0; i < CALLS; i++) {
            switch (i % 12) {
                case 0: w.years(40, i); break;
                case 1: w.perform(i % 4); break;
                case 2: w.run(i % 4, 1); break;
                case 3: w.walk(i % 8, 90, 80, 99, 0); break;
                case 4: w.race(1, 0, 1); break;
                case 5: w.limit(i % 8, -1, 0); break;
                case 6: w.goes(i % 8, 0); break;
                case 7: w.image(); break;
                case 8: w.partner(i % 8, 999, 999); break;
                case 9: w.undo(); break;
                case 10: w.fault(i % 2); break;
                default: w.span(i % 8, 0, true); break;
            }
        }
    }

    public static void main(String[] args) {
        dearCalls(full());
        HushWatch w = full();
        long before = made();
        dearCalls(w);
        long calls = made() - before;
        Check.due("bytes made by " + CALLS + " dear calls: " + calls, calls < 4096, true);
        before = made();
        HushWatch another = new HushWatch();
        long object = made() - before;
        Check.due("a new object", another.held(0), 0);
        // 7.3 million elements of four bytes hold a thousand objects of this size.
        Check.due("bytes of an object: " + object, object < 29000, true);
        before = made();
        for (int i = 0; i < CALLS; i++) {
            w.spell(i % 8, i % 14);
        }
        long spelled = made() - before;
        Check.due("bytes made by spelling " + CALLS + " times: " + spelled, spelled < CALLS * 400L, true);
        Check.finish("RoomTest");
    }
}
