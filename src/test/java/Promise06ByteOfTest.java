/** Promise 6: the bytes of the message that was read last. */
public final class Promise06ByteOfTest {
    private static final Due DUE = new Due("promise 6");

    public static void main(String[] args) {
        bytesAreAsWritten(1, 0);
        bytesAreAsWritten(80, 5);
        bytesAreAsWritten(400, -77);
        bytesAreAsWritten(400, Integer.MAX_VALUE);
        bytesAreAsWritten(400, Integer.MIN_VALUE);
        withoutAMessageThereIsNone();
        aReadOfNoneLeavesTheLastOne();
        aNewMessageIsNotReadYet();
        queuedMessagesAreReadOneByOne();
        DUE.end();
    }

    private static void bytesAreAsWritten(int size, int seed) {
        DUE.sentence("A byte of the message that was read last; NONE if there is none.");
        TwinNetwork x = Made.withLink(7, 3, 4, 120, 4, 4 * 40 + 2);
        x.write(7, size, seed);
        x.tick(300);
        x.read(2, 7);
        for (int i = 0; i < size; i++) {
            DUE.is("byteOf(" + i + ") of " + size, x.byteOf(i), (int) (seed + 37L * i + i * i / 8 & 255));
        }
        for (int k : new int[] {size, size + 1, -1, -8, -9, 1000, Integer.MIN_VALUE, Integer.MAX_VALUE}) {
            DUE.is("byteOf(" + k + ") of " + size, x.byteOf(k), -1);
        }
    }

    private static void withoutAMessageThereIsNone() {
        DUE.sentence("NONE if there is none");
        TwinNetwork x = Made.fromZeroToThree(20, Made.QUEUING);
        x.write(0, 3, 10);
        x.tick(60);
        DUE.is("byteOf(0) before a read", x.byteOf(0), -1);
        DUE.refusesArgument("read(2, 0)", () -> x.read(2, 0));
        DUE.is("byteOf(0) after a refused read", x.byteOf(0), -1);
        x.read(3, 0);
        DUE.is("byteOf(0)", x.byteOf(0), 10);
        TwinNetwork empty = Made.fromZeroToThree(20, Made.QUEUING);
        DUE.answers("read(3, 0) of none", 0, () -> empty.read(3, 0));
        DUE.is("byteOf(0) after a read of none", empty.byteOf(0), -1);
    }

    private static TwinNetwork withBothKindsRead() {
        TwinNetwork x = Made.fromZeroToThree(20, 0);
        x.link(1, 0, 4, 64, 8, 4 * 20 + 2);
        x.write(0, 3, 10);
        x.write(1, 12, 20);
        x.tick(60);
        x.read(3, 1);
        DUE.is("byteOf(0)", x.byteOf(0), 20);
        DUE.is("byteOf(11)", x.byteOf(11), 20 + 37 * 11 + 15 & 255);
        x.read(3, 0);
        DUE.is("byteOf(0) of the other one", x.byteOf(0), 10);
        DUE.is("byteOf(2) of the other one", x.byteOf(2), 84);
        DUE.is("byteOf(3) of the other one", x.byteOf(3), -1);
        return x;
    }

    private static void aReadOfNoneLeavesTheLastOne() {
        DUE.sentence("A byte of the message that was read last");
        TwinNetwork x = withBothKindsRead();
        DUE.answers("read(3, 1)", 0, () -> x.read(3, 1));
        DUE.is("byteOf(0) when there was none to be read", x.byteOf(0), 10);
        DUE.refusesArgument("read(2, 1)", () -> x.read(2, 1));
        DUE.is("byteOf(0) after a refused read", x.byteOf(0), 10);
    }

    private static void aNewMessageIsNotReadYet() {
        DUE.sentence("A byte of the message that was read last");
        TwinNetwork x = withBothKindsRead();
        x.write(0, 4, 30);
        x.write(0, 4, 31);
        x.tick(60);
        DUE.is("byteOf(0) when others came", x.byteOf(0), 10);
        DUE.is("byteOf(3) when others came", x.byteOf(3), -1);
        x.read(3, 0);
        DUE.is("byteOf(0) of the newest one", x.byteOf(0), 31);
    }

    private static void queuedMessagesAreReadOneByOne() {
        DUE.sentence("a QUEUING one is gone then, its bytes can be asked as those of a SAMPLING one");
        TwinNetwork x = Made.fromZeroToThree(20, Made.QUEUING);
        for (int i = 0; i < 6; i++) {
            x.write(0, 1 + i, 40 + i);
        }
        x.tick(200);
        for (int i = 0; i < 4; i++) {
            x.read(3, 0);
            DUE.is("byteOf(0) of message " + i, x.byteOf(0), 40 + i);
            DUE.is("byteOf(" + i + ") of message " + i, x.byteOf(i), 40 + i + 37 * i + i * i / 8);
            DUE.is("byteOf(" + (i + 1) + ") of message " + i, x.byteOf(i + 1), -1);
        }
    }
}
