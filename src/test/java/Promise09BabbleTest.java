/** Promise 9: an end system babbles. */
public final class Promise09BabbleTest {
    private static final Due DUE = new Due("promise 9");

    public static void main(String[] args) {
        wrongArgumentsAreRefused();
        framesHave64To200Bytes();
        linksAreSetUpOrNot();
        numbersAreCutToTheirLowestBits();
        everySystemBabblesInEachNetwork();
        sumsAreAddedAsLongAsThereIsSome();
        sixteenFramesHaveRoom();
        aBabbledMessageIsNone();
        DUE.end();
    }

    private static void wrongArgumentsAreRefused() {
        DUE.sentence("false if there is no room, or something isn't there (link 0 .. 7, set up or not)");
        TwinNetwork x = Made.fromZeroToThree(1, 0);
        int[][] wrong = {{-1, 0, 0, 64}, {2, 0, 0, 64}, {0, -1, 0, 64}, {0, 4, 0, 64}, {0, 0, -1, 64}, {0, 0, 8, 64},
            {0, 0, 0, 63}, {0, 0, 0, 201}, {0, 0, 0, 0}, {0, 0, 0, -64}, {Integer.MIN_VALUE, 0, 0, 64},
            {0, Integer.MAX_VALUE, 0, 64}, {0, 0, Integer.MIN_VALUE, 64}, {0, 0, 0, Integer.MAX_VALUE},
            {0, 0, 0, Integer.MIN_VALUE}};
        for (int[] a : wrong) {
            DUE.isFalse("babble(" + a[0] + ", " + a[1] + ", " + a[2] + ", " + a[3] + ", 0)",
                    x.babble(a[0], a[1], a[2], a[3], 0));
        }
        for (int line = 0; line < 4; line++) {
            DUE.is("waiting(0, " + line + ", 0)", x.waiting(0, line, 0), 0);
            DUE.is("waiting(1, " + line + ", 0)", x.waiting(1, line, 0), 0);
        }
        DUE.drops("after refused frames", x);
    }

    private static void theFrameIsAsTold(int network, int e, int l, int size, int n) {
        TwinNetwork x = new TwinNetwork();
        DUE.isTrue("babble(" + network + ", " + e + ", " + l + ", " + size + ", " + n + ")",
                x.babble(network, e, l, size, n));
        DUE.is("waiting before the tick", x.waiting(network, e, 0), 1);
        DUE.is("onLine before the tick", x.onLine(network, e, -1), -1);
        x.tick(1);
        int[] frame = FrameBytes.of(l, e, network, new int[size - 39], n & 65535, 0, false, n & 255);
        FrameBytes.compare(DUE, x, network, e, frame);
        DUE.is("the other network", x.onLine(1 - network, e, -1), -1);
    }

    private static void framesHave64To200Bytes() {
        DUE.sentence("a frame of a link with so many bytes (64 .. 200), whose fragment has all bytes but 39, zeros");
        for (int size : new int[] {64, 65, 128, 129, 199, 200}) {
            theFrameIsAsTold(0, 1, 6, size, 3);
        }
    }

    private static void linksAreSetUpOrNot() {
        DUE.sentence("something isn't there (link 0 .. 7, set up or not)");
        for (int l = 0; l < 8; l++) {
            theFrameIsAsTold(0, 2, l, 64, 0);
        }
        TwinNetwork x = Made.fromZeroToThree(1, 0);
        DUE.isTrue("babble of a link that is set up, by its source", x.babble(0, 0, 0, 64, 0));
        DUE.isTrue("babble of a link that is set up, by another", x.babble(0, 1, 0, 64, 0));
        DUE.isTrue("babble of a link with more than its MOST", x.babble(0, 0, 0, 200, 0));
    }

    private static void numbersAreCutToTheirLowestBits() {
        DUE.sentence("number n (its lowest 16 bits), place 0, none following, "
                + "a SEQUENCE number (n's lowest eight bits)");
        for (int n : new int[] {0, 255, 256, 0x12345, 65535, 65536, -1, -256, Integer.MIN_VALUE, Integer.MAX_VALUE}) {
            theFrameIsAsTold(1, 3, 0, 65, n);
        }
    }

    private static void everySystemBabblesInEachNetwork() {
        DUE.sentence("all else as told (that system as source), is put into the row of its line of a network");
        for (int e = 0; e < 4; e++) {
            for (int network = 0; network < 2; network++) {
                theFrameIsAsTold(network, e, 7, 70, 256);
            }
        }
    }

    /** With the first of these numbers the ten numbers are 131071 together: what is above is added twice. */
    private static void sumsAreAddedAsLongAsThereIsSome() {
        DUE.sentence("what is above 16 bits is added to the lowest 16 as long as there is some");
        for (int n : new int[] {0xCEDF, 0xCEDE, 0xCEE0, 0x0000, 0xFFFF}) {
            theFrameIsAsTold(0, 0, 0, 64, n);
        }
    }

    private static void sixteenFramesHaveRoom() {
        DUE.sentence("false if there is no room");
        TwinNetwork x = new TwinNetwork();
        for (int i = 0; i < 16; i++) {
            DUE.isTrue("babble " + i, x.babble(1, 2, 0, 64, i));
        }
        DUE.isFalse("babble 16", x.babble(1, 2, 0, 64, 16));
        DUE.is("waiting(1, 2, 0)", x.waiting(1, 2, 0), 16);
        DUE.drops("after one without room", x, 6, 1);
        DUE.isTrue("babble in the other network", x.babble(0, 2, 0, 64, 16));
        DUE.isTrue("babble of another system", x.babble(1, 3, 0, 64, 16));
        x.tick(1);
        DUE.isTrue("babble when one is on the line", x.babble(1, 2, 0, 64, 17));
        DUE.isFalse("babble when it is full again", x.babble(1, 2, 0, 64, 18));
        for (int i = 0; i < 16; i++) {
            DUE.is("the number of frame " + i, x.onLine(1, 2, 59), i);
            x.tick(8);
        }
        DUE.is("the number of the last frame", x.onLine(1, 2, 59), 17);
    }

    private static void aBabbledMessageIsNone() {
        DUE.sentence("the first 8 bytes must be there, and bytes 4, 5 tell its length, else 10");
        for (int more : new int[] {0, Made.QUEUING}) {
            TwinNetwork x = Made.fromZeroToThree(20, more);
            x.babble(0, 0, 0, 64, 0);
            x.tick(16);
            DUE.drops("at 16", x);
            x.tick(1);
            DUE.drops("at 17", x, 10, 1);
            DUE.is("port(3, 0)", x.port(3, 0), more == 0 ? -1 : 0);
        }
    }
}
