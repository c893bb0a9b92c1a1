/** Promise 5: messages are read at ports. */
public final class Promise05ReadTest {
    private static final Due DUE = new Due("promise 5");

    public static void main(String[] args) {
        queuedMessagesAreReadInOrderAndGone();
        theSampledMessageStays();
        wrongArgumentsAreRefused();
        eachTargetHasItsOwnPort();
        aMessageComesThroughOneNetwork();
        DUE.end();
    }

    private static void queuedMessagesAreReadInOrderAndGone() {
        TwinNetwork x = new TwinNetwork();
        x.link(0, 0, 4, 64, 8, 4 * 20 + 2);
        DUE.answers("read(3, 0) before any", 0, () -> x.read(3, 0));
        for (int size = 10; size < 16; size++) {
            x.write(0, size, 1);
        }
        x.tick(200);
        for (int size = 10; size < 14; size++) {
            DUE.answers("read(3, 0)", size, () -> x.read(3, 0));
        }
        DUE.answers("read(3, 0) of none", 0, () -> x.read(3, 0));
        x.write(0, 100, 2);
        x.write(0, 16, 3);
        x.tick(200);
        DUE.answers("read(3, 0) again", 100, () -> x.read(3, 0));
        DUE.answers("read(3, 0) again", 16, () -> x.read(3, 0));
        DUE.answers("read(3, 0) of none", 0, () -> x.read(3, 0));
    }

    private static void theSampledMessageStays() {
        TwinNetwork x = new TwinNetwork();
        x.link(0, 0, 4, 64, 8, 4 * 20);
        DUE.answers("read(3, 0) before any", 0, () -> x.read(3, 0));
        x.write(0, 10, 1);
        x.write(0, 11, 1);
        x.tick(16);
        DUE.answers("read(3, 0) before it came", 0, () -> x.read(3, 0));
        x.tick(1);
        DUE.answers("read(3, 0) when it came", 10, () -> x.read(3, 0));
        DUE.answers("read(3, 0) once more", 10, () -> x.read(3, 0));
        x.tick(16);
        DUE.answers("read(3, 0) of the next one", 11, () -> x.read(3, 0));
        DUE.answers("read(3, 0) of the next one once more", 11, () -> x.read(3, 0));
    }

    private static void wrongArgumentsAreRefused() {
        TwinNetwork x = new TwinNetwork();
        x.link(0, 0, 4, 64, 8, 4);
        int[][] wrong = {{-1, 0}, {4, 0}, {0, 0}, {1, 0}, {2, 0}, {3, 1}, {3, -1}, {3, 8},
            {Integer.MAX_VALUE, 0}, {3, Integer.MIN_VALUE}};
        for (int[] a : wrong) {
            DUE.refusesArgument("read(" + a[0] + ", " + a[1] + ")", () -> x.read(a[0], a[1]));
        }
    }

    private static void eachTargetHasItsOwnPort() {
        TwinNetwork x = new TwinNetwork();
        x.link(0, 0, 4, 64, 14, 6);
        x.write(0, 9, 1);
        x.tick(50);
        for (int e = 1; e < 4; e++) {
            int system = e;
            DUE.answers("read(" + e + ", 0)", 9, () -> x.read(system, 0));
            DUE.answers("read(" + e + ", 0) again", 0, () -> x.read(system, 0));
        }
    }

    /** Each network loses other fragments; together they have all. */
    private static void aMessageComesThroughOneNetwork() {
        TwinNetwork x = new TwinNetwork();
        x.link(0, 0, 4, 64, 8, 4 * 100 + 2);
        x.write(0, 64, 7);
        x.harm(0, 0, 0, 0);
        x.tick(16);
        x.harm(1, 0, 3, 1);
        x.tick(60);
        DUE.answers("read(3, 0)", 64, () -> x.read(3, 0));
        DUE.is("byteOf(63)", x.byteOf(63), 7 + 37 * 63 + 496 & 255);
        DUE.is("dropped(0)", x.dropped(0), 1);
        DUE.is("dropped(1)", x.dropped(1), 1);
        DUE.is("dropped(9)", x.dropped(9), 1);
        DUE.is("dropped(10)", x.dropped(10), 0);
    }
}
