/** Promise 8: the next frame that a line takes is spoilt or lost. */
public final class Promise08HarmTest {
    private static final Due DUE = new Due("promise 8");

    public static void main(String[] args) {
        wrongArgumentsAreRefused();
        aByteIsSpoilt(40, 7, 40);
        aByteIsSpoilt(63, 255, 63);
        aByteIsSpoilt(64, 1, 0);
        aByteIsSpoilt(200, 128, 8);
        aByteIsSpoilt(Integer.MAX_VALUE, 16, 63);
        aByteIsSpoilt(-1, 16, 63);
        aByteIsSpoilt(Integer.MIN_VALUE, 16, 0);
        aSpoiltFrameIsDroppedAtTheLinesEnd();
        aLostFrameGivesWayToTheNext();
        aHarmTakesAnothersPlace();
        harmMeetsTheNextFrameOnly();
        DUE.end();
    }

    private static void wrongArgumentsAreRefused() {
        TwinNetwork x = new TwinNetwork();
        DUE.isFalse("harm(-1, 0, 0, 0)", x.harm(-1, 0, 0, 0));
        DUE.isFalse("harm(2, 0, 0, 0)", x.harm(2, 0, 0, 0));
        DUE.isFalse("harm(0, -1, 0, 0)", x.harm(0, -1, 0, 0));
        DUE.isFalse("harm(0, 12, 0, 0)", x.harm(0, 12, 0, 0));
        DUE.isFalse("harm(0, 0, 0, -1)", x.harm(0, 0, 0, -1));
        DUE.isFalse("harm(0, 0, 0, 256)", x.harm(0, 0, 0, 256));
        x.link(0, 0, 4, 64, 8, 4);
        x.write(0, 1, 1);
        x.tick(17);
        DUE.is("port(3, 0)", x.port(3, 0), 1);
        DUE.is("dropped(0)", x.dropped(0), 0);
        DUE.is("dropped(1)", x.dropped(1), 0);
        DUE.isTrue("harm(1, 11, 0, 255)", x.harm(1, 11, 0, 255));
        DUE.isTrue("harm(0, 0, 0, 0)", x.harm(0, 0, 0, 0));
    }

    private static TwinNetwork fromZeroToThree() {
        TwinNetwork x = new TwinNetwork();
        x.link(0, 0, 4, 64, 8, 4 * 20 + 2);
        return x;
    }

    private static void aByteIsSpoilt(int place, int mask, int k) {
        TwinNetwork x = fromZeroToThree();
        x.write(0, 1, 9);
        DUE.isTrue("harm(0, 0, " + place + ", " + mask + ")", x.harm(0, 0, place, mask));
        x.tick(1);
        TwinNetwork whole = fromZeroToThree();
        whole.write(0, 1, 9);
        whole.tick(1);
        for (int i = 0; i < 64; i++) {
            DUE.is("byte " + i, x.onLine(0, 0, i), whole.onLine(0, 0, i) ^ (i == k ? mask : 0));
            DUE.is("byte " + i + " of network 1", x.onLine(1, 0, i), whole.onLine(1, 0, i));
        }
    }

    private static void aSpoiltFrameIsDroppedAtTheLinesEnd() {
        for (int line : new int[] {0, 7}) {
            for (int k = 0; k < 64; k++) {
                TwinNetwork x = fromZeroToThree();
                x.write(0, 1, 9);
                x.harm(0, line, k, 1 << k % 8);
                x.tick(line == 0 ? 8 : 16);
                DUE.is("dropped(1) before the end of line " + line, x.dropped(1), 0);
                x.tick(1);
                DUE.is("dropped(1) at the end of line " + line + " with byte " + k, x.dropped(1), 1);
                x.tick(40);
                DUE.is("port(3, 0)", x.port(3, 0), 1);
                DUE.is("dropped(9)", x.dropped(9), 0);
            }
        }
    }

    private static void aLostFrameGivesWayToTheNext() {
        TwinNetwork x = fromZeroToThree();
        x.link(1, 0, 4, 64, 8, 4 * 20 + 2);
        x.write(0, 1, 9);
        x.write(1, 1, 9);
        x.harm(0, 0, 5, 0);
        x.harm(1, 7, 5, 0);
        x.tick(1);
        DUE.is("dropped(0)", x.dropped(0), 1);
        DUE.is("onLine(0, 0, 5)", x.onLine(0, 0, 5), 1);
        DUE.is("waiting(0, 0, 0)", x.waiting(0, 0, 0), 0);
        DUE.is("onLine(1, 0, 5)", x.onLine(1, 0, 5), 0);
        x.tick(8);
        DUE.is("dropped(0) at 9", x.dropped(0), 2);
        DUE.is("onLine(1, 7, -1) with none to follow", x.onLine(1, 7, -1), -1);
        x.tick(8);
        DUE.is("onLine(1, 7, 5)", x.onLine(1, 7, 5), 1);
        x.tick(20);
        DUE.is("port(3, 0)", x.port(3, 0), 0);
        DUE.is("port(3, 1)", x.port(3, 1), 1);
        DUE.is("dropped(0) at last", x.dropped(0), 2);
    }

    private static void aHarmTakesAnothersPlace() {
        TwinNetwork x = fromZeroToThree();
        x.write(0, 1, 9);
        x.harm(0, 0, 5, 0);
        x.harm(0, 0, 20, 64);
        DUE.isFalse("harm(0, 0, 30, 256)", x.harm(0, 0, 30, 256));
        x.tick(1);
        DUE.is("dropped(0)", x.dropped(0), 0);
        DUE.is("onLine(0, 0, 20)", x.onLine(0, 0, 20), 64);
        DUE.is("onLine(0, 0, 5)", x.onLine(0, 0, 5), 0);
    }

    private static void harmMeetsTheNextFrameOnly() {
        TwinNetwork x = fromZeroToThree();
        x.write(0, 1, 9);
        x.write(0, 1, 9);
        x.tick(1);
        x.harm(0, 0, 34, 8);
        DUE.is("onLine(0, 0, 34) of the frame that is on the line", x.onLine(0, 0, 34), 3);
        x.tick(16);
        DUE.is("onLine(0, 0, 34) of the next one", x.onLine(0, 0, 34), 11);
        x.write(0, 1, 9);
        x.tick(16);
        DUE.is("onLine(0, 0, 34) of the one after it", x.onLine(0, 0, 34), 3);
        x.tick(40);
        DUE.is("dropped(1)", x.dropped(1), 1);
        DUE.is("port(3, 0)", x.port(3, 0), 3);
    }
}
