/** Promise 6: the bytes of the message that was read last. */
public final class Promise06ByteOfTest {
    private static final Due DUE = new Due("promise 6");

    public static void main(String[] args) {
        bytesAreAsWritten(1, 0);
        bytesAreAsWritten(80, 5);
        bytesAreAsWritten(400, -77);
        bytesAreAsWritten(400, Integer.MAX_VALUE);
        itIsTheMessageThatWasReadLast();
        DUE.end();
    }

    private static void bytesAreAsWritten(int size, int seed) {
        TwinNetwork x = new TwinNetwork();
        x.link(7, 3, 4, 120, 4, 4 * 40 + 2);
        x.write(7, size, seed);
        x.tick(300);
        DUE.is("byteOf(0) before a read", x.byteOf(0), -1);
        x.read(2, 7);
        for (int i = 0; i < size; i++) {
            DUE.is("byteOf(" + i + ") of " + size, x.byteOf(i), (int) (seed + 37L * i + i * i / 8 & 255));
        }
        DUE.is("byteOf(" + size + ")", x.byteOf(size), -1);
        DUE.is("byteOf(-1)", x.byteOf(-1), -1);
        DUE.is("byteOf(-8)", x.byteOf(-8), -1);
        DUE.is("byteOf(least)", x.byteOf(Integer.MIN_VALUE), -1);
        DUE.is("byteOf(greatest)", x.byteOf(Integer.MAX_VALUE), -1);
    }

    private static void itIsTheMessageThatWasReadLast() {
        TwinNetwork x = new TwinNetwork();
        x.link(0, 0, 4, 64, 8, 4 * 20);
        x.link(1, 0, 4, 64, 8, 4 * 20 + 2);
        x.write(0, 3, 10);
        x.write(1, 12, 20);
        x.tick(60);
        x.read(3, 1);
        DUE.is("byteOf(0)", x.byteOf(0), 20);
        DUE.is("byteOf(11)", x.byteOf(11), 20 + 37 * 11 + 15 & 255);
        x.read(3, 0);
        DUE.is("byteOf(0) of the other one", x.byteOf(0), 10);
        DUE.is("byteOf(3) of the other one", x.byteOf(3), -1);
        x.write(0, 4, 30);
        x.tick(60);
        DUE.is("byteOf(0) when another came", x.byteOf(0), 10);
        DUE.answers("read(3, 1)", 0, () -> x.read(3, 1));
        DUE.is("byteOf(0) when there was none to be read", x.byteOf(0), 10);
        DUE.refusesArgument("read(2, 1)", () -> x.read(2, 1));
        DUE.is("byteOf(0) after a refused read", x.byteOf(0), 10);
        x.read(3, 0);
        DUE.is("byteOf(0) of the new one", x.byteOf(0), 30);
        for (int i = 0; i < 6; i++) {
            x.write(1, 1 + i, 40 + i);
        }
        x.tick(200);
        for (int i = 0; i < 4; i++) {
            x.read(3, 1);
            DUE.is("byteOf(0) of message " + i, x.byteOf(0), 40 + i);
            DUE.is("byteOf(" + i + ") of message " + i, x.byteOf(i), 40 + i + 37 * i + i * i / 8);
            DUE.is("byteOf(" + (i + 1) + ") of message " + i, x.byteOf(i + 1), -1);
        }
    }
}
