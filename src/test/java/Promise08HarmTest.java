/** Promise 8: the next frame that a line takes is spoilt or lost. */
public final class Promise08HarmTest {
    private static final Due DUE = new Due("promise 8");

    public static void main(String[] args) {
        wrongArgumentsAreRefused();
        masksAreFrom0To255();
        thePlaceIsModuloTheSize();
        eachLineCanBeHarmed();
        aSpoiltFrameIsDroppedAtTheLinesEnd();
        aLostFrameGivesWayToTheNext();
        aLostFrameWithoutANextLeavesTheLineEmpty();
        aLostHighFrameGivesWayToAPlainOne();
        aHarmTakesAnothersPlace();
        harmMeetsTheNextFrameOnly();
        harmWaitsForAFrame();
        DUE.end();
    }

    private static void wrongArgumentsAreRefused() {
        DUE.sentence("False if there is no such network, line or mask.");
        TwinNetwork x = Made.fromZeroToThree(20, Made.QUEUING);
        int[][] wrong = {{-1, 0, 0, 0}, {2, 0, 0, 0}, {0, -1, 0, 0}, {0, 12, 0, 0}, {0, 0, 0, -1}, {0, 0, 0, 256},
            {Integer.MIN_VALUE, 0, 0, 0}, {0, Integer.MAX_VALUE, 0, 0}, {0, 0, 0, Integer.MIN_VALUE},
            {0, 0, 0, Integer.MAX_VALUE}};
        for (int[] a : wrong) {
            DUE.isFalse("harm(" + a[0] + ", " + a[1] + ", " + a[2] + ", " + a[3] + ")", x.harm(a[0], a[1], a[2], a[3]));
        }
        x.write(0, 1, 1);
        x.tick(17);
        DUE.is("port(3, 0) after refused harm", x.port(3, 0), 1);
        DUE.drops("after refused harm", x, 9, 1);
    }

    /** Byte 20 of a frame of one fragment is 0. */
    private static void masksAreFrom0To255() {
        DUE.sentence("becomes itself xor mask (1 .. 255)");
        for (int mask : new int[] {1, 2, 128, 254, 255}) {
            aByteIsSpoilt(64, 20, mask, 20);
            aByteIsSpoilt(64, 0, mask, 0);
        }
        TwinNetwork x = Made.fromZeroToThree(20, Made.QUEUING);
        DUE.isTrue("harm(0, 0, 0, 0)", x.harm(0, 0, 0, 0));
    }

    private static void thePlaceIsModuloTheSize() {
        DUE.sentence("a byte (place's lowest 31 bits modulo its size)");
        aByteIsSpoilt(64, 63, 255, 63);
        aByteIsSpoilt(64, 64, 1, 0);
        aByteIsSpoilt(64, 200, 128, 8);
        aByteIsSpoilt(64, Integer.MAX_VALUE, 16, 63);
        aByteIsSpoilt(64, -1, 16, 63);
        aByteIsSpoilt(64, Integer.MIN_VALUE, 16, 0);
        aByteIsSpoilt(65, 64, 16, 64);
        aByteIsSpoilt(65, 65, 16, 0);
        aByteIsSpoilt(65, Integer.MIN_VALUE + 66, 16, 1);
        // 2147483647 is 47 modulo 100, and 2147483646 is 46.
        aByteIsSpoilt(100, Integer.MAX_VALUE, 16, 47);
        aByteIsSpoilt(100, -2, 16, 46);
        aByteIsSpoilt(200, 199, 16, 199);
        aByteIsSpoilt(200, 200, 16, 0);
        aByteIsSpoilt(200, 399, 16, 199);
    }

    private static void aByteIsSpoilt(int size, int place, int mask, int k) {
        TwinNetwork x = new TwinNetwork();
        x.babble(0, 0, 3, size, 9);
        x.babble(1, 0, 3, size, 9);
        DUE.isTrue("harm(0, 0, " + place + ", " + mask + ")", x.harm(0, 0, place, mask));
        x.tick(1);
        int[] frame = FrameBytes.of(3, 0, 1, new int[size - 39], 9, 0, false, 9);
        FrameBytes.compare(DUE, x, 1, 0, frame);
        frame = FrameBytes.of(3, 0, 0, new int[size - 39], 9, 0, false, 9);
        frame[k] ^= mask;
        FrameBytes.compare(DUE, x, 0, 0, frame);
    }

    /** From each end system to all others: every line but the sources' has one frame of the link. */
    private static void eachLineCanBeHarmed() {
        DUE.sentence("The next frame that line 0 .. 11 of a network takes is spoilt");
        int[] sources = {0, 1, 2, 3, 1, 0, 0, 0, 0, 0, 1, 2};
        for (int line = 0; line < 12; line++) {
            for (int network = 0; network < 2; network++) {
                TwinNetwork x = Made.withLink(0, sources[line], 4, 64, 15 - (1 << sources[line]), 6);
                DUE.isTrue("harm(" + network + ", " + line + ", 20, 3)", x.harm(network, line, 20, 3));
                x.write(0, 1, 1);
                x.tick(60);
                DUE.is("dropped(1) with harm of line " + line + " of network " + network, x.dropped(1), 1);
                for (int e = 0; e < 4; e++) {
                    DUE.is("port(" + e + ", 0)", x.port(e, 0), e == sources[line] ? -1 : 1);
                }
            }
        }
    }

    private static void aSpoiltFrameIsDroppedAtTheLinesEnd() {
        DUE.sentence("1 its CHECK is wrong");
        for (int line : new int[] {0, 7}) {
            for (int k = 0; k < 64; k++) {
                TwinNetwork x = Made.fromZeroToThree(20, Made.QUEUING);
                x.write(0, 1, 9);
                x.harm(0, line, k, 1 << k % 8);
                x.tick(line == 0 ? 8 : 16);
                DUE.is("dropped(1) before the end of line " + line, x.dropped(1), 0);
                x.tick(1);
                DUE.is("dropped(1) at the end of line " + line + " with byte " + k, x.dropped(1), 1);
                x.tick(40);
                DUE.is("port(3, 0)", x.port(3, 0), 1);
                DUE.is("dropped(9)", x.dropped(9), 0);
            }
        }
    }

    private static void aLostFrameGivesWayToTheNext() {
        DUE.sentence("or, if mask is 0, it is lost, and the line takes the next one in its place");
        TwinNetwork x = new TwinNetwork();
        for (int n = 1; n <= 3; n++) {
            x.babble(0, 0, 0, 64, n);
        }
        x.harm(0, 0, 5, 0);
        x.tick(1);
        DUE.is("dropped(0)", x.dropped(0), 1);
        DUE.is("onLine(0, 0, 59)", x.onLine(0, 0, 59), 2);
        DUE.is("waiting(0, 0, 0)", x.waiting(0, 0, 0), 1);
        x.tick(8);
        DUE.is("onLine(0, 0, 59) after it", x.onLine(0, 0, 59), 3);
        DUE.is("dropped(0) at last", x.dropped(0), 1);
    }

    private static void aLostFrameWithoutANextLeavesTheLineEmpty() {
        DUE.sentence("it is lost, and the line takes the next one in its place");
        TwinNetwork x = new TwinNetwork();
        x.babble(0, 0, 0, 64, 1);
        x.harm(0, 0, 5, 0);
        x.tick(1);
        DUE.is("dropped(0)", x.dropped(0), 1);
        DUE.is("onLine(0, 0, -1) with none to follow", x.onLine(0, 0, -1), -1);
        DUE.is("waiting(0, 0, 0)", x.waiting(0, 0, 0), 0);
        x.babble(0, 0, 0, 64, 2);
        x.tick(1);
        DUE.is("onLine(0, 0, 59) of a later one", x.onLine(0, 0, 59), 2);
        DUE.is("dropped(0) at last", x.dropped(0), 1);
    }

    /** Links 1 (HIGH) and 0 have a frame each behind one of 128 bytes, which is on line 4 until 33. */
    private static void aLostHighFrameGivesWayToAPlainOne() {
        DUE.sentence("the line takes the next one in its place");
        TwinNetwork x = Made.withLink(2, 3, 4, 128, 1, 4);
        x.link(0, 3, 4, 64, 1, 4);
        x.link(1, 1, 4, 64, 1, 5);
        x.babble(0, 3, 2, 128, 0);
        x.babble(0, 3, 0, 64, 0);
        x.tick(8);
        x.babble(0, 1, 1, 64, 0);
        x.tick(24);
        DUE.is("onLine(0, 4, 5) at 32", x.onLine(0, 4, 5), 2);
        DUE.is("waiting(0, 4, 0) at 32", x.waiting(0, 4, 0), 1);
        DUE.is("waiting(0, 4, 1) at 32", x.waiting(0, 4, 1), 1);
        x.harm(0, 4, 0, 0);
        x.tick(1);
        DUE.is("onLine(0, 4, 5) at 33", x.onLine(0, 4, 5), 0);
        DUE.is("waiting(0, 4, 0) at 33", x.waiting(0, 4, 0), 0);
        DUE.is("waiting(0, 4, 1) at 33", x.waiting(0, 4, 1), 0);
        DUE.is("dropped(0)", x.dropped(0), 1);
    }

    private static void aHarmTakesAnothersPlace() {
        DUE.sentence("(One in place of another.)");
        TwinNetwork x = Made.fromZeroToThree(20, Made.QUEUING);
        x.write(0, 1, 9);
        x.harm(0, 0, 5, 0);
        x.harm(0, 0, 20, 64);
        DUE.isFalse("harm(0, 0, 30, 256)", x.harm(0, 0, 30, 256));
        x.tick(1);
        DUE.is("dropped(0)", x.dropped(0), 0);
        DUE.is("onLine(0, 0, 20)", x.onLine(0, 0, 20), 64);
        DUE.is("onLine(0, 0, 5)", x.onLine(0, 0, 5), 0);
        TwinNetwork y = Made.fromZeroToThree(20, Made.QUEUING);
        y.write(0, 1, 9);
        y.harm(0, 0, 20, 64);
        y.harm(0, 0, 5, 0);
        y.tick(1);
        DUE.is("dropped(0) with loss in place of a mask", y.dropped(0), 1);
    }

    private static void harmMeetsTheNextFrameOnly() {
        DUE.sentence("The next frame that line 0 .. 11 of a network takes is spoilt");
        TwinNetwork x = Made.fromZeroToThree(20, Made.QUEUING);
        x.write(0, 1, 9);
        x.write(0, 1, 9);
        x.tick(1);
        x.harm(0, 0, 34, 8);
        DUE.is("onLine(0, 0, 34) of the frame that is on the line", x.onLine(0, 0, 34), 3);
        x.tick(16);
        DUE.is("onLine(0, 0, 34) of the next one", x.onLine(0, 0, 34), 11);
        x.write(0, 1, 9);
        x.tick(16);
        DUE.is("onLine(0, 0, 34) of the one after it", x.onLine(0, 0, 34), 3);
        x.tick(40);
        DUE.is("dropped(1)", x.dropped(1), 1);
        DUE.is("port(3, 0)", x.port(3, 0), 3);
    }

    private static void harmWaitsForAFrame() {
        DUE.sentence("The next frame that line 0 .. 11 of a network takes is spoilt");
        TwinNetwork x = Made.fromZeroToThree(20, Made.QUEUING);
        x.harm(1, 7, 0, 0);
        x.harm(1, 0, 34, 8);
        x.tick(2000);
        DUE.drops("with no frame", x);
        x.write(0, 1, 9);
        x.tick(1);
        DUE.is("onLine(1, 0, 34) at 2001", x.onLine(1, 0, 34), 11);
        x.write(0, 1, 9);
        x.tick(60);
        DUE.drops("with two frames", x, 0, 1, 1, 1);
        DUE.is("port(3, 0)", x.port(3, 0), 2);
    }
}
