import java.lang.management.ManagementFactory;

/** All calls of a run live in one room: no call makes an object. */
public final class RoomTest {
    private static final com.sun.management.ThreadMXBean THREADS =
            (com.sun.management.ThreadMXBean) ManagementFactory.getThreadMXBean();

    public static void main(String[] args) {
        long[] made = new long[AnyCall.CALLS];
        BreadGames x = Cities.some(5);
        AnyCall any = new AnyCall(77);
        // The first round alone may load classes and texts.
        for (int i = 0; i < 60000; i++) {
            any.pick();
            long before = THREADS.getCurrentThreadAllocatedBytes();
            any.make(x);
            long after = THREADS.getCurrentThreadAllocatedBytes();
            made[any.call] += i < 30000 ? 0 : after - before;
            if (i % 512 == 0) {
                x = Cities.some(i);
            }
        }
        for (int call = 0; call < made.length; call++) {
            Checks.due("bytes made by call " + call, made[call], 0);
        }
        Checks.end("RoomTest");
    }
}
