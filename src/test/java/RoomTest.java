import java.lang.management.ManagementFactory;

/**
 * What a run makes fits the room of 600,000 objects and 7.3 million fields and elements by far.
 * Each field and element has a byte or more, each object 16 or more, so the bytes bound both.
 */
public final class RoomTest {
    private static final int MOST_BYTES = 600_000;
    private static final int MOST_BYTES_OF_A_NEW_OBJECT = 20_000;

    public static void main(String[] args) {
        Due due = new Due("room");
        fullRun(new TwinNetwork());
        long before = allocated();
        TwinNetwork x = new TwinNetwork();
        long made = allocated() - before;
        fullRun(x);
        long all = allocated() - before;
        due.isTrue("a new object makes " + made + " bytes", made <= MOST_BYTES_OF_A_NEW_OBJECT);
        due.isTrue("a run makes " + all + " bytes", all <= MOST_BYTES);
        due.end();
    }

    private static long allocated() {
        com.sun.management.ThreadMXBean threads =
                (com.sun.management.ThreadMXBean) ManagementFactory.getThreadMXBean();
        return threads.getCurrentThreadAllocatedBytes();
    }

    /** 512 calls that keep all rows and ports full. */
    private static void fullRun(TwinNetwork x) {
        for (int l = 0; l < 8; l++) {
            x.link(l, l % 4, 4, 128, 15 - (1 << l % 4), 4 * 100 + 2 + l / 4);
        }
        int calls = 8;
        for (int round = 0; round < 12; round++) {
            for (int l = 0; l < 8; l++) {
                x.write(l, 400, round);
                x.babble(round % 2, l % 4, l, 64 + 10 * round, round);
                x.harm(round % 2, l, 0, round % 3);
                x.read((l + 1) % 4, l);
                x.tick(30);
                calls += 5;
            }
        }
        while (calls < 512) {
            x.babble(calls % 2, calls % 4, calls % 8, 128, calls);
            calls++;
        }
    }
}
