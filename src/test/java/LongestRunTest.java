/** An object that is used for all its calls answers to the last one as to the first. */
public final class LongestRunTest {
    private static final int CALLS = 512;
    private static final Due DUE = new Due("longest run");

    public static void main(String[] args) {
        theTimeGoesOn();
        allMessagesCome();
        DUE.end();
    }

    /** A message comes at the beginning, the next one a million ticks later. */
    private static void theTimeGoesOn() {
        DUE.sentence("An object is used for at most 512 calls after it has been made");
        TwinNetwork x = Made.fromZeroToThree(1000, 0);
        x.write(0, 1, 1);
        int time = 0;
        for (int call = 2; call < CALLS - 6; call++) {
            time += 2000;
            DUE.is("tick(2000) as call " + (call + 1), x.tick(2000), time);
        }
        DUE.is("port(3, 0)", x.port(3, 0), time - 16);
        DUE.is("account(0, 0)", x.account(0, 0), 5120);
        DUE.answers("write(0, 2, 7)", 1, () -> x.write(0, 2, 7));
        DUE.is("tick(17)", x.tick(17), time + 17);
        DUE.answers("read(3, 0)", 2, () -> x.read(3, 0));
        DUE.is("byteOf(0) as the last call", x.byteOf(0), 7);
    }

    /** 170 messages are written, brought and read. */
    private static void allMessagesCome() {
        DUE.sentence("An object is used for at most 512 calls after it has been made");
        TwinNetwork x = Made.fromZeroToThree(1, Made.QUEUING);
        for (int i = 0; i < (CALLS - 1) / 3; i++) {
            int size = 1 + i % 16;
            DUE.answers("write " + i, 1, () -> x.write(0, size, size));
            x.tick(17);
            DUE.answers("read " + i, size, () -> x.read(3, 0));
        }
        DUE.is("dropped(9) as the last call", x.dropped(9), (CALLS - 1) / 3);
    }
}
