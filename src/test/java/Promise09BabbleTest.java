/** Promise 9: an end system babbles. */
public final class Promise09BabbleTest {
    private static final Due DUE = new Due("promise 9");

    public static void main(String[] args) {
        wrongArgumentsAreRefused();
        theFrameIsAsTold(0, 1, 6, 64, 0x12345);
        theFrameIsAsTold(1, 3, 0, 65, -1);
        theFrameIsAsTold(1, 0, 7, 200, 256);
        // With this number the ten numbers are 131071 together: what is above 16 bits is added twice.
        theFrameIsAsTold(0, 0, 0, 64, 0xCEDF);
        sixteenFramesHaveRoom();
        switchesFilterAndPolice();
        aBabbledMessageIsNone();
        DUE.end();
    }

    private static void wrongArgumentsAreRefused() {
        TwinNetwork x = new TwinNetwork();
        x.link(0, 0, 4, 64, 8, 4);
        DUE.isFalse("babble(-1, 0, 0, 64, 0)", x.babble(-1, 0, 0, 64, 0));
        DUE.isFalse("babble(2, 0, 0, 64, 0)", x.babble(2, 0, 0, 64, 0));
        DUE.isFalse("babble(0, -1, 0, 64, 0)", x.babble(0, -1, 0, 64, 0));
        DUE.isFalse("babble(0, 4, 0, 64, 0)", x.babble(0, 4, 0, 64, 0));
        DUE.isFalse("babble(0, 0, -1, 64, 0)", x.babble(0, 0, -1, 64, 0));
        DUE.isFalse("babble(0, 0, 8, 64, 0)", x.babble(0, 0, 8, 64, 0));
        DUE.isFalse("babble(0, 0, 0, 63, 0)", x.babble(0, 0, 0, 63, 0));
        DUE.isFalse("babble(0, 0, 0, 201, 0)", x.babble(0, 0, 0, 201, 0));
        for (int line = 0; line < 4; line++) {
            DUE.is("waiting(0, " + line + ", 0)", x.waiting(0, line, 0), 0);
            DUE.is("waiting(1, " + line + ", 0)", x.waiting(1, line, 0), 0);
        }
        DUE.is("dropped(6)", x.dropped(6), 0);
    }

    private static void theFrameIsAsTold(int network, int e, int l, int size, int n) {
        TwinNetwork x = new TwinNetwork();
        DUE.isTrue("babble(" + network + ", " + e + ", " + l + ", " + size + ", " + n + ")",
                x.babble(network, e, l, size, n));
        DUE.is("waiting before the tick", x.waiting(network, e, 0), 1);
        DUE.is("onLine before the tick", x.onLine(network, e, -1), -1);
        x.tick(1);
        int[] frame = FrameBytes.of(l, e, network, new int[size - 39], n & 65535, 0, false, n & 255);
        FrameBytes.compare(DUE, x, network, e, frame);
        DUE.is("the other network", x.onLine(1 - network, e, -1), -1);
    }

    private static void sixteenFramesHaveRoom() {
        TwinNetwork x = new TwinNetwork();
        for (int i = 0; i < 16; i++) {
            DUE.isTrue("babble " + i, x.babble(1, 2, 0, 64, i));
        }
        DUE.isFalse("babble 16", x.babble(1, 2, 0, 64, 16));
        DUE.is("waiting(1, 2, 0)", x.waiting(1, 2, 0), 16);
        DUE.is("dropped(6)", x.dropped(6), 1);
        DUE.isTrue("babble in the other network", x.babble(0, 2, 0, 64, 16));
        x.tick(1);
        DUE.isTrue("babble when one is on the line", x.babble(1, 2, 0, 64, 17));
        DUE.isFalse("babble when it is full again", x.babble(1, 2, 0, 64, 18));
        for (int i = 0; i < 16; i++) {
            DUE.is("the number of frame " + i, x.onLine(1, 2, 59), i);
            x.tick(8);
        }
        DUE.is("the number of the last frame", x.onLine(1, 2, 59), 17);
    }

    /** MOST 80 and GAP 64: an account of 10240, of which a frame of 70 bytes takes 4480. */
    private static void switchesFilterAndPolice() {
        TwinNetwork x = new TwinNetwork();
        x.link(2, 1, 6, 80, 1, 44);
        x.babble(0, 0, 2, 70, 0);
        x.babble(0, 2, 5, 70, 0);
        x.babble(0, 1, 2, 81, 0);
        x.babble(0, 1, 2, 80, 0);
        x.tick(12);
        DUE.is("dropped(3): by a line that isn't on the paths", x.dropped(3), 1);
        DUE.is("dropped(2): no such link", x.dropped(2), 1);
        DUE.is("dropped(4): too long", x.dropped(4), 1);
        DUE.is("account(0, 2)", x.account(0, 2), 10240);
        x.tick(10);
        DUE.is("dropped(4) of MOST bytes", x.dropped(4), 1);
        DUE.is("account(0, 2) when it paid", x.account(0, 2), 10240 - 5120 + 80);
        DUE.is("account(1, 2)", x.account(1, 2), 10240);
        DUE.is("dropped(5)", x.dropped(5), 0);
    }

    private static void aBabbledMessageIsNone() {
        for (int flags : new int[] {4 * 20, 4 * 20 + 2}) {
            TwinNetwork x = new TwinNetwork();
            x.link(0, 0, 4, 64, 8, flags);
            x.babble(0, 0, 0, 64, 0);
            x.tick(16);
            DUE.is("dropped(10) at 16", x.dropped(10), 0);
            x.tick(1);
            DUE.is("dropped(10) at 17", x.dropped(10), 1);
            DUE.is("port(3, 0)", x.port(3, 0), flags % 4 == 2 ? 0 : -1);
        }
    }
}
