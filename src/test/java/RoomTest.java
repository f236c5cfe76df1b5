import java.lang.management.ManagementFactory;

/** All calls of a run live in one room: an object is made once and its calls make next to nothing. */
final class RoomTest {
    private static final long MOST_BYTES_OF_AN_OBJECT = 400_000;
    private static final long MOST_BYTES_OF_THE_CALLS = 50_000;
    private static final Checks CHECKS = new Checks("RoomTest");

    public static void main(String[] args) {
        run();
        com.sun.management.ThreadMXBean threads = (com.sun.management.ThreadMXBean) ManagementFactory.getThreadMXBean();
        threads.getThreadAllocatedBytes(Thread.currentThread().getId());
        long before = threads.getThreadAllocatedBytes(Thread.currentThread().getId());
        OtherCoins x = new OtherCoins();
        long made = threads.getThreadAllocatedBytes(Thread.currentThread().getId());
        calls(x);
        long after = threads.getThreadAllocatedBytes(Thread.currentThread().getId());
        System.out.println("an object: " + (made - before) + " bytes, its calls: " + (after - made) + " bytes");
        CHECKS.due("a small object", 1, made - before <= MOST_BYTES_OF_AN_OBJECT ? 1 : 0);
        CHECKS.due("no more by calls", 1, after - made <= MOST_BYTES_OF_THE_CALLS ? 1 : 0);
        CHECKS.end();
    }

    private static void run() {
        calls(new OtherCoins());
    }

    private static void calls(OtherCoins x) {
        writeLaw(x);
        for (int kind = 0; kind < 5; kind++) {
            x.person(kind, kind % 4);
            for (int coin = 0; coin < 4; coin++) {
                x.purse(kind, coin, 1);
            }
        }
        x.image();
        x.trail(0);
        for (int i = 0; i < 40; i++) {
            x.gains(i % 4, 1);
            x.fewest(i % 5, 3 - i % 4, 0);
            x.ways();
            x.ends();
            x.walk(i % 5, 60, i, 0);
            x.digest();
            x.next(0);
            x.act(i % 5, i % 24);
            x.fault();
            x.restore();
            x.trail(0);
        }
    }

    private static void writeLaw(OtherCoins x) {
        // 123:141/023:242/013:343/012:044
        x.letters(0x2f3134313a333231L);
        x.letters(0x2f3234323a333230L);
        x.letters(0x2f3334333a333130L);
        x.letters(0x3434303a323130L);
        CHECKS.due("a law", 12, x.law());
    }
}
