import java.util.Arrays;

/** Promise 10, and what the Terms say of a FRAME: the frame on a line, byte by byte. */
public final class Promise10OnLineTest {
    private static final Due DUE = new Due("promise 10");

    public static void main(String[] args) {
        everyByteIsAsTold();
        placesAndFollowersAreTold();
        theSumIsTurned();
        theCheckIsAsTold();
        aSmallFrameIsFilledUp();
        theLastFragmentIsFilledUp();
        aFrameIsMadeAnew();
        noneTellsTheSize();
        bytesBeyondAreNotThere();
        otherLinesHaveNone();
        DUE.end();
    }

    /** A message of one byte, 9, over link 6 from 3: all bytes but the SUM and the CHECK, written out. */
    private static void everyByteIsAsTold() {
        DUE.sentence("A FRAME: 3, 0, 0, 0, 0, link; 2, 0, 0, 0, source, 32 (network 0) or 64; 8, 0; "
                + "69, 0, 20 and the fragment's bytes (2); the message's number (2)");
        TwinNetwork x = Made.withLink(6, 3, 4, 64, 1, 4);
        x.write(6, 1, 9);
        x.tick(1);
        int[] due = {3, 0, 0, 0, 0, 6, 2, 0, 0, 0, 3, 32, 8, 0, 69, 0, 0, 29, 0, 0, 0, 0, 1, 17, -1, -1, 10, 1, 3, 1,
            224, 224, 0, 6, 3, 238, 7, 214, 0, 9, 0, 0, 9};
        for (int network = 0; network < 2; network++) {
            for (int k = 0; k < 60; k++) {
                int want = k >= due.length ? 0 : k == 11 ? 32 + 32 * network : due[k];
                if (want >= 0) {
                    DUE.is("onLine(" + network + ", 3, " + k + ")", x.onLine(network, 3, k), want);
                }
            }
        }
    }

    /** Link 0 from 0, a fragment of 25 bytes: the nine other numbers are 78112 and the message's number. */
    private static void theSumIsTurned() {
        DUE.sentence("SUM: the ten numbers of 2 bytes from 69 on (itself 0) are added, what is above 16 bits is added "
                + "to the lowest 16 as long as there is some; all bits turned.");
        int[][] sums = {{0, 65535 - 12577}, {52957, 1}, {52958, 0}, {52959, 65534}, {52960, 65533}, {65535, 52958}};
        for (int[] a : sums) {
            TwinNetwork x = new TwinNetwork();
            x.babble(0, 0, 0, 64, a[0]);
            x.tick(1);
            DUE.is("the SUM with number " + a[0], x.onLine(0, 0, 24) * 256 + x.onLine(0, 0, 25), a[1]);
        }
    }

    /** Bit by bit, as the document says it. */
    private static void theCheckIsAsTold() {
        DUE.sentence("CHECK: CRC-32 of all bytes before: of 32 bits, at first all 1; for each bit of each byte, the "
                + "lowest first: they go down by one, and, if the lowest one wasn't the byte's bit, become xor "
                + "3988292384; at last all are turned; its lowest byte first.");
        for (int size : new int[] {64, 65, 200}) {
            TwinNetwork x = new TwinNetwork();
            x.babble(1, 2, 5, size, 777);
            x.tick(1);
            long check = 0xFFFFFFFFL;
            for (int k = 0; k < size - 4; k++) {
                for (int bit = 0; bit < 8; bit++) {
                    boolean wasIt = (check & 1) == (x.onLine(1, 2, k) >> bit & 1);
                    check = wasIt ? check / 2 : check / 2 ^ 3988292384L;
                }
            }
            check = 0xFFFFFFFFL - check;
            for (int k = size - 4; k < size; k++) {
                DUE.is("onLine(1, 2, " + k + ") of " + size, x.onLine(1, 2, k), (int) (check % 256));
                check /= 256;
            }
        }
    }

    /** 300 bytes over link 4 of MOST 100: 308 bytes in fragments of 56, the last one of 28. */
    private static void placesAndFollowersAreTold() {
        DUE.sentence("32 if more fragments follow, else 0, and the fragment's place divided by 8");
        TwinNetwork x = Made.withLink(4, 2, 4, 100, 3, 4 * 50 + 3);
        x.write(4, 300, 200);
        int[] datagram = FrameBytes.datagram(4, 300, 200);
        x.tick(1);
        for (int i = 0; i < 6; i++) {
            int[] fragment = Arrays.copyOfRange(datagram, 56 * i, Math.min(308, 56 * i + 56));
            for (int network = 0; network < 2; network++) {
                FrameBytes.compare(DUE, x, network, 2, FrameBytes.of(4, 2, network, fragment, 0, 56 * i, i < 5, i));
            }
            x.tick(12);
            FrameBytes.compare(DUE, x, 1, 11, FrameBytes.of(4, 2, 1, fragment, 0, 56 * i, i < 5, i));
            x.tick(4);
        }
    }

    /** The smallest datagram has 9 bytes; one of 25 fills a frame of 64 without zeros; one of 89 is the greatest. */
    private static void aSmallFrameIsFilledUp() {
        DUE.sentence("zeros, as many as it takes that the frame has 64 bytes");
        int[][] sizes = {{1, 64}, {15, 64}, {16, 64}, {17, 64}, {18, 65}, {19, 66}, {80, 127}, {81, 128}};
        for (int[] a : sizes) {
            for (int source : new int[] {0, 1}) {
                TwinNetwork x = Made.withLink(0, source, 4, 128, 4, 4);
                x.write(0, a[0], 255);
                x.tick(1);
                DUE.is("onLine(0, " + source + ", -1) of " + a[0], x.onLine(0, source, -1), a[1]);
                int[] datagram = FrameBytes.datagram(0, a[0], 255);
                FrameBytes.compare(DUE, x, 0, source, FrameBytes.of(0, source, 0, datagram, 0, 0, false, 0));
                FrameBytes.compare(DUE, x, 1, source, FrameBytes.of(0, source, 1, datagram, 0, 0, false, 0));
            }
        }
    }

    /** A datagram of 89 bytes over fragments of 88: the second one has one byte. */
    private static void theLastFragmentIsFilledUp() {
        DUE.sentence("zeros, as many as it takes that the frame has 64 bytes");
        TwinNetwork x = Made.withLink(0, 0, 4, 128, 8, 6);
        x.write(0, 81, 3);
        int[] datagram = FrameBytes.datagram(0, 81, 3);
        x.tick(1);
        FrameBytes.compare(DUE, x, 0, 0, FrameBytes.of(0, 0, 0, Arrays.copyOf(datagram, 88), 0, 0, true, 0));
        x.tick(16);
        int[] last = Arrays.copyOfRange(datagram, 88, 89);
        FrameBytes.compare(DUE, x, 0, 0, FrameBytes.of(0, 0, 0, last, 0, 88, false, 1));
    }

    /** A small frame comes after a great one, and a great one after a small one: nothing of the other is left. */
    private static void aFrameIsMadeAnew() {
        DUE.sentence("zeros, as many as it takes that the frame has 64 bytes; a SEQUENCE number; a CHECK of 4 bytes");
        TwinNetwork x = Made.withLink(0, 1, 4, 128, 4, 4);
        int[] sizes = {81, 1, 40, 5};
        for (int i = 0; i < sizes.length; i++) {
            x.write(0, sizes[i], 255);
            x.tick(1);
            int[] datagram = FrameBytes.datagram(0, sizes[i], 255);
            FrameBytes.compare(DUE, x, 0, 1, FrameBytes.of(0, 1, 0, datagram, i, 0, false, i));
            x.tick(15);
        }
    }

    private static TwinNetwork withAFrame() {
        TwinNetwork x = Made.withLink(0, 0, 4, 64, 2, 4);
        x.write(0, 5, 1);
        x.tick(1);
        return x;
    }

    private static void noneTellsTheSize() {
        DUE.sentence("k NONE: how many bytes it has");
        for (int size : new int[] {64, 65, 200}) {
            TwinNetwork x = new TwinNetwork();
            x.babble(0, 0, 0, size, 0);
            x.tick(1);
            DUE.is("onLine(0, 0, NONE) of " + size, x.onLine(0, 0, TwinNetwork.NONE), size);
        }
    }

    private static void bytesBeyondAreNotThere() {
        DUE.sentence("A byte of the frame that is on a line of a network, k NONE: how many bytes it has; "
                + "NONE if there is none.");
        TwinNetwork x = withAFrame();
        DUE.is("onLine(0, 0, 0)", x.onLine(0, 0, 0), 3);
        DUE.isTrue("onLine(0, 0, 63)", x.onLine(0, 0, 63) >= 0);
        for (int k : new int[] {-2, 64, 65, 199, 200, Integer.MAX_VALUE, Integer.MIN_VALUE}) {
            DUE.is("onLine(0, 0, " + k + ")", x.onLine(0, 0, k), -1);
        }
    }

    private static void otherLinesHaveNone() {
        DUE.sentence("NONE if there is none");
        TwinNetwork x = withAFrame();
        int[][] none = {{-1, 0}, {2, 0}, {0, -1}, {0, 12}, {0, 1}, {0, 8}, {0, 11}, {1, 12}, {1, -1},
            {Integer.MAX_VALUE, 0}, {0, Integer.MIN_VALUE}};
        for (int[] a : none) {
            DUE.is("onLine(" + a[0] + ", " + a[1] + ", -1)", x.onLine(a[0], a[1], -1), -1);
            DUE.is("onLine(" + a[0] + ", " + a[1] + ", 0)", x.onLine(a[0], a[1], 0), -1);
        }
        x.tick(8);
        DUE.is("onLine(0, 0, -1) when it arrived", x.onLine(0, 0, -1), -1);
        DUE.is("onLine(0, 0, 0) when it arrived", x.onLine(0, 0, 0), -1);
        DUE.is("onLine(0, 8, 0)", x.onLine(0, 8, 0), 3);
    }
}
