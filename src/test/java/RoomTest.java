import java.lang.management.ManagementFactory;

/** All calls of a run live in one room: an object is small, and calls that do not throw make nothing. */
public final class RoomTest {
    private static final com.sun.management.ThreadMXBean THREADS =
            (com.sun.management.ThreadMXBean) ManagementFactory.getThreadMXBean();

    public static void main(String[] args) {
        // Twice: what the machine makes when it first loads classes does not count.
        for (int i = 0; i < 2; i++) dearCalls(new Stripboard());
        long begin = THREADS.getCurrentThreadAllocatedBytes();
        Stripboard x = new Stripboard();
        long made = THREADS.getCurrentThreadAllocatedBytes();
        dearCalls(x);
        long end = THREADS.getCurrentThreadAllocatedBytes();
        Check.due("an object of " + (made - begin) + " bytes is small", made - begin < 16000, true);
        Check.due("calls that make " + (end - made) + " bytes make next to nothing", end - made < 2000, true);
        Check.end("RoomTest");
    }

    private static void dearCalls(Stripboard x) {
        x.place(1);
        for (int i = 0; i < 8; i++) x.person(i % 3, 100, 10, i % 2 == 0);
        for (int i = 0; i < 20; i++) {
            x.scene(i - 1, 0, true, true, 30);
            x.needs(i, 255);
        }
        for (int i = 0; i < 100; i++) {
            x.fill();
            x.cost();
            x.ill(0, i % 30, i % 2 == 0);
            x.mend(i % 30);
        }
    }
}
