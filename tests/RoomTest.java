import com.sun.management.ThreadMXBean;
import java.lang.management.ManagementFactory;

/** An object makes all it needs when it is made: no call makes an object or an array. */
public final class RoomTest {
    private static final int ROUNDS = 2000;
    private static final long MOST_BYTES = 32_000;

    public static void main(String[] args) {
        ThreadMXBean bean = (ThreadMXBean) ManagementFactory.getThreadMXBean();
        long thread = Thread.currentThread().getId();
        calls(new SpanSketch());
        bean.getThreadAllocatedBytes(thread);
        long before = bean.getThreadAllocatedBytes(thread);
        SpanSketch x = new SpanSketch();
        long made = bean.getThreadAllocatedBytes(thread);
        Check.due("bytes of a new object: " + (made - before), made - before < MOST_BYTES, true);
        made = bean.getThreadAllocatedBytes(thread);
        for (int i = 0; i < ROUNDS; i++) {
            calls(x);
        }
        long after = bean.getThreadAllocatedBytes(thread);
        // The machine itself may make something on the way; the calls would make far more.
        Check.due("bytes made by calls: " + (after - made), after - made < ROUNDS * 8, true);
        Check.end();
    }

    private static void calls(SpanSketch x) {
        for (int t = 0; t < 4; t++) {
            x.tray(t, t % 2, 100);
            x.write(t, 3, -1);
            x.read(t, 3);
        }
        x.pour(0, 0, 2, 1, 99);
        for (int c = 0; c < 3; c++) {
            x.sample(c, 16, 7);
            x.put(c, 3 * c, 20);
            x.put(c, 39, 7);
            x.strike(c, 39, 6);
            x.pack(c, 0);
            x.strike(c, 0, 90);
            x.truly(c, 3);
            x.rows(c, 2);
            x.make(c, 12, 1, 5);
            x.melt(c, 3);
            x.split(c, 30);
            x.keep(c);
            x.sketch(c, 3);
            x.span(c, 3, 4);
            x.heavy(c, 3);
        }
        for (int c = 0; c < 3; c++) {
            int o = (c + 1) % 3;
            x.guess(c, 3, 30);
            x.bound(c, 3, 30, true);
            x.join(c, o);
            x.harm(c, 3, 30, o, 0, 39);
            x.together(c, o);
            x.drifts(c);
            x.drawn(c, 3);
        }
        x.away(2);
        x.status();
        x.top();
        x.bottom();
    }
}
