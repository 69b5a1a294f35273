import com.sun.management.ThreadMXBean;
import java.lang.management.ManagementFactory;

/** What a run of 512 calls makes: the rows of the kinds that it begins, and nothing for each further call. */
public final class RoomTest {
    private static final long ROWS_AT_MOST = 600_000;
    private static final long CALLS_AT_MOST = 20_000;

    public static void main(String[] args) {
        Check check = new Check("RoomTest");
        ThreadMXBean beans = (ThreadMXBean) ManagementFactory.getThreadMXBean();
        long self = Thread.currentThread().getId();
        run(new TwistDesk());

        long start = beans.getThreadAllocatedBytes(self);
        TwistDesk desk = new TwistDesk();
        beginAll(desk);
        long made = beans.getThreadAllocatedBytes(self) - start;
        check.due("bytes for all kinds, " + made + ", within bound", made < ROWS_AT_MOST, true);

        start = beans.getThreadAllocatedBytes(self);
        run(desk);
        made = beans.getThreadAllocatedBytes(self) - start;
        check.due("bytes for all calls, " + made + ", within bound", made < CALLS_AT_MOST, true);
        check.end();
    }

    private static void beginAll(TwistDesk desk) {
        for (int kind = 0; kind < 5; kind++) {
            desk.begin(kind);
        }
    }

    private static void run(TwistDesk desk) {
        beginAll(desk);
        desk.unpack(0, desk.base());
        for (int n = 0; n < 50; n++) {
            desk.times(1, -1 - n, 0);
            desk.both(2, n, 0, Long.MIN_VALUE, 1);
            desk.join(3, 2, 1, true);
            desk.log(0, 1);
            desk.half(4, 3);
            desk.order(1);
            desk.base();
            desk.points();
            desk.verify(0, 1, n, desk.sign(0, n, n));
        }
    }
}
