import java.lang.management.ManagementFactory;

/** The calls of one run make no objects: all rows are made by the constructor. */
public final class RoomTest {
    private static final Due due = new Due("RoomTest");
    private static final com.sun.management.ThreadMXBean THREADS =
        (com.sun.management.ThreadMXBean) ManagementFactory.getThreadMXBean();

    public static void main(String[] args) {
        // Once without counting, so that the machine has loaded what it loads for the first use.
        allCalls(new FieldPumps());
        FieldPumps x = new FieldPumps();
        long thread = Thread.currentThread().getId();
        long before = THREADS.getThreadAllocatedBytes(thread);
        int answers = allCalls(x);
        long bytes = THREADS.getThreadAllocatedBytes(thread) - before;
        due.isTrue("answers were given", answers != 0);
        due.isTrue("no more than 4096 bytes by all calls: " + bytes, bytes <= 4096);
        due.end();
    }

    private static int allCalls(FieldPumps x) {
        int sum = x.pump(1, 700, 2) + x.pump(1, 650, 3) + x.pump(0, 800, 5) + x.pump(2, 600, 40);
        sum += x.zone(200) + x.zone(300) + x.open(0, 1) + x.programme(1, 60, 300);
        sum += x.type('p') + x.type('9') + x.type(';');
        for (int i = 0; i < 30; i++) {
            sum += x.set(18, i) + x.leak(i) + x.fill(i * 100) + x.pass(20) + x.undo() + x.play();
            sum += x.foresee(1440, i % 5) + x.foreseeEvent(i % 8) + x.fault(0) + x.reset();
            sum += x.readyAt(0) + x.balance() + x.station(3) + x.eventAt(0, 0) + x.nightAt(0);
        }
        return sum;
    }
}
