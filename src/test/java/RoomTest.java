import java.lang.management.ManagementFactory;

/** All calls of one object live in one room: what it needs is made with it, and no call makes anything more. */
public final class RoomTest {
    /** A tenth of the room's 7.3 million fields and elements, at four bytes each at least. */
    private static final long MOST_BYTES = 4L * 730000;

    public static void main(String[] args) {
        com.sun.management.ThreadMXBean threads = (com.sun.management.ThreadMXBean) ManagementFactory.getThreadMXBean();
        String text = "part l(n:int,r)=if n=0 then {print(n);r} else {l(n-1,[r,n]);l(n-1,r)};part main():[any]=l(15,[1]);";
        calls(new BlameCourt(), text);
        long before = made(threads);
        long nothing = made(threads) - before;
        before = made(threads);
        BlameCourt court = new BlameCourt();
        long object = made(threads) - before - nothing;
        Court.due("an object of " + object + " bytes is small enough", true, object < MOST_BYTES);
        before = made(threads);
        calls(court, text);
        long byCalls = made(threads) - before - nothing;
        // the machine itself may make a little: a call of the court's that made an object a step would make megabytes
        Court.due("calls made next to nothing: " + byCalls + " bytes", true, byCalls < 20000);
        Court.close();
    }

    private static long made(com.sun.management.ThreadMXBean threads) {
        return threads.getThreadAllocatedBytes(Thread.currentThread().getId());
    }

    private static void calls(BlameCourt court, String text) {
        for (int i = 0; i < 30; i++) {
            Court.read(court, text);
            court.judge();
            court.tell(0, i % 2 == 0);
            court.judge();
            court.run(20000);
            court.runUntold(20000);
            court.told(i % 10);
            court.asked(0, 0);
            court.guard(0, 3);
        }
    }
}
