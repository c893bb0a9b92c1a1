/** Promise 5: messages are read at ports. */
public final class Promise05ReadTest {
    private static final Due DUE = new Due("promise 5");

    public static void main(String[] args) {
        withoutAMessageItIsZero();
        queuedMessagesAreReadInOrderAndGone();
        theSampledMessageStays();
        theSizeIsThatOfTheMessage();
        wrongArgumentsAreRefused();
        eachTargetHasItsOwnPort();
        aMessageComesThroughOneNetwork();
        DUE.end();
    }

    private static void withoutAMessageItIsZero() {
        DUE.sentence("0 if there is none");
        for (int more : new int[] {0, Made.QUEUING}) {
            TwinNetwork x = Made.fromZeroToThree(20, more);
            DUE.answers("read(3, 0) at 0", 0, () -> x.read(3, 0));
            x.write(0, 10, 1);
            DUE.answers("read(3, 0) when it is written", 0, () -> x.read(3, 0));
            x.tick(16);
            DUE.answers("read(3, 0) before it came", 0, () -> x.read(3, 0));
            x.tick(1);
            DUE.answers("read(3, 0) when it came", 10, () -> x.read(3, 0));
            DUE.answers("read(3, 0) once more", more == 0 ? 10 : 0, () -> x.read(3, 0));
        }
    }

    private static void queuedMessagesAreReadInOrderAndGone() {
        DUE.sentence("a QUEUING one is gone then, its bytes can be asked as those of a SAMPLING one");
        TwinNetwork x = Made.fromZeroToThree(20, Made.QUEUING);
        for (int size = 10; size < 16; size++) {
            x.write(0, size, size);
        }
        x.tick(200);
        for (int size = 10; size < 14; size++) {
            DUE.answers("read(3, 0)", size, () -> x.read(3, 0));
            DUE.is("port(3, 0)", x.port(3, 0), 13 - size);
            DUE.is("byteOf(0)", x.byteOf(0), size);
        }
        DUE.answers("read(3, 0) of none", 0, () -> x.read(3, 0));
        x.write(0, 100, 2);
        x.write(0, 16, 3);
        x.tick(200);
        DUE.answers("read(3, 0) again", 100, () -> x.read(3, 0));
        DUE.answers("read(3, 0) again", 16, () -> x.read(3, 0));
        DUE.answers("read(3, 0) of none", 0, () -> x.read(3, 0));
    }

    private static void theSampledMessageStays() {
        DUE.sentence("SAMPLING: in place of the one before");
        TwinNetwork x = Made.fromZeroToThree(20, 0);
        x.write(0, 10, 1);
        x.write(0, 11, 1);
        x.tick(17);
        DUE.answers("read(3, 0) when it came", 10, () -> x.read(3, 0));
        DUE.answers("read(3, 0) once more", 10, () -> x.read(3, 0));
        x.tick(16);
        DUE.answers("read(3, 0) of the next one", 11, () -> x.read(3, 0));
        DUE.answers("read(3, 0) of the next one once more", 11, () -> x.read(3, 0));
    }

    private static void theSizeIsThatOfTheMessage() {
        DUE.sentence("A message is read at an end system's port of a link: how many bytes it has");
        for (int size : new int[] {1, 2, 80, 81, 247, 248, 400}) {
            TwinNetwork x = Made.withLink(0, 0, 4, 128, 8, 4 * 20 + 2);
            x.write(0, size, 1);
            x.tick(120);
            DUE.answers("read(3, 0) of " + size, size, () -> x.read(3, 0));
        }
    }

    private static void wrongArgumentsAreRefused() {
        DUE.sentence("IllegalArgumentException: there is no such end system, or it is no target of such a link.");
        TwinNetwork x = Made.fromZeroToThree(1, Made.QUEUING);
        x.write(0, 10, 1);
        x.tick(17);
        int[][] wrong = {{-1, 0}, {4, 0}, {0, 0}, {1, 0}, {2, 0}, {3, 1}, {3, -1}, {3, 8}, {3, 32}, {35, 0},
            {Integer.MAX_VALUE, 0}, {3, Integer.MIN_VALUE}};
        for (int[] a : wrong) {
            DUE.refusesArgument("read(" + a[0] + ", " + a[1] + ")", () -> x.read(a[0], a[1]));
        }
        DUE.is("port(3, 0) after refused reads", x.port(3, 0), 1);
        DUE.is("byteOf(0) after refused reads", x.byteOf(0), -1);
    }

    private static void eachTargetHasItsOwnPort() {
        DUE.sentence("A message is read at an end system's port of a link");
        TwinNetwork x = Made.withLink(0, 0, 4, 64, 14, 6);
        x.write(0, 9, 1);
        x.tick(50);
        for (int e = 1; e < 4; e++) {
            int system = e;
            DUE.answers("read(" + e + ", 0)", 9, () -> x.read(system, 0));
            DUE.answers("read(" + e + ", 0) again", 0, () -> x.read(system, 0));
        }
    }

    /** Each network loses other fragments; together they have all. */
    private static void aMessageComesThroughOneNetwork() {
        DUE.sentence("taken once, and put together again at ports");
        TwinNetwork x = Made.fromZeroToThree(100, Made.QUEUING);
        x.write(0, 64, 7);
        x.harm(0, 0, 0, 0);
        x.tick(16);
        x.harm(1, 0, 3, 1);
        x.tick(60);
        DUE.answers("read(3, 0)", 64, () -> x.read(3, 0));
        DUE.is("byteOf(63)", x.byteOf(63), 7 + 37 * 63 + 496 & 255);
        DUE.drops("with a lost and a spoilt fragment", x, 0, 1, 1, 1, 9, 1);
    }
}
