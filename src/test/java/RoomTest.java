import com.sun.management.ThreadMXBean;
import java.lang.management.ManagementFactory;

/** No call makes an object: all calls of one run have one small room. */
public final class RoomTest {
    private static final ThreadMXBean BEAN = (ThreadMXBean) ManagementFactory.getThreadMXBean();
    private static long sum;

    public static void main(String[] args) {
        Due.part("room");
        long me = Thread.currentThread().getId();
        BEAN.getThreadAllocatedBytes(me);
        run(new CaseLine());
        CaseLine x = new CaseLine();
        long before = BEAN.getThreadAllocatedBytes(me);
        run(x);
        long made = BEAN.getThreadAllocatedBytes(me) - before;
        Due.due("512 calls make nothing (" + made + " bytes)", made < 8192 ? 1 : 0, 1);
        before = BEAN.getThreadAllocatedBytes(me);
        sum += new CaseLine().book(0);
        made = BEAN.getThreadAllocatedBytes(me) - before;
        Due.due("an object is small (" + made + " bytes)", made < 40000 ? 1 : 0, 1);
        Due.end();
    }

    private static void run(CaseLine x) {
        sum += x.supply(1000) + x.fault(0, 50, 60) + x.set(0, 1, 20);
        for (int i = 0; i < 18; i++) {
            sum += x.ticks(i == 0 ? 500 : 7) + x.about(1, 1) + x.cause(6) + x.book(6) + x.confirm(0) + x.lot(i % 16);
            sum += x.pack(i, i / 4) + x.weigh(i / 4, 450) + x.close(i / 4) + x.stack(i / 4, i / 8) + x.recall(0, 1);
            sum += x.layer(12, 12, 5, 3) + x.planned(i, 2) + x.holds() + x.change(i % 6, 5, i) + x.stain(i % 6, i % 4);
            sum += x.tour(63, i % 6, i % 6) + x.scale(i, 90 + i) + x.scales(0) + x.code(i, 1) + x.box(i, 3);
            sum += x.rule(4, i) + x.seal(1) + x.breakUp(1, i % 6) + x.breakUp(0, i) + x.scales(1);
        }
        sum += x.line(6) + x.layer(12, 12, 1, 1) + x.layer(12, 12, 7, 7);
    }
}
