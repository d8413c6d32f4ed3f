import java.lang.management.ManagementFactory;

/** All calls of a run live in one room, so no call may make anything: only new objects take room. */
public final class RoomTest {
    /** What the measuring itself may take. */
    private static final long SLACK = 20000L;

    private RoomTest() {
    }

    public static void main(String[] args) {
        com.sun.management.ThreadMXBean meter = (com.sun.management.ThreadMXBean) ManagementFactory.getThreadMXBean();
        long self = Thread.currentThread().getId();
        // The first one also loads the classes, which is no room of a run.
        prepare(new EndTooLong());
        long before = meter.getThreadAllocatedBytes(self);
        EndTooLong x = new EndTooLong();
        long made = meter.getThreadAllocatedBytes(self) - before;
        prepare(x);
        dearCalls(x);
        before = meter.getThreadAllocatedBytes(self);
        dearCalls(x);
        long byCalls = meter.getThreadAllocatedBytes(self) - before;
        System.out.println("a new object takes " + made + " bytes, the calls " + byCalls);
        if (made > 40000L || byCalls > SLACK) {
            System.out.println("that is too much");
            System.exit(1);
        }
    }

    private static void prepare(EndTooLong x) {
        for (int i = 0; i < 8; i++) {
            x.tie(150, 3);
            x.tier(11, 70);
        }
        for (int kind = 0; kind < 8; kind++) {
            x.body(kind);
        }
        x.row(0, 0, 5);
        for (int i = 0; i < 5; i++) {
            x.put(0, i, i);
        }
        x.row(1, 1, 60);
    }

    private static void dearCalls(EndTooLong x) {
        for (int i = 0; i < 30; i++) {
            x.feed('t');
            x.feed('+');
            x.feed('1');
            x.law();
            x.fit(1, 0);
            x.knot(0, 0);
            x.order(0, 1, -1);
            x.oneMore(0, 1, 0);
            x.began(1, 1, 1);
            x.drawn(1, 701, i, 500);
            x.act(7, 3, i);
            x.mend(0, 4, i);
            x.undo();
            x.image();
            x.back();
            x.row(2, 3, 60);
            x.shift(2, 0, 2, 1, 59);
        }
    }
}
