import java.util.Arrays;

/** Promise 10, and what the Terms say of a FRAME: the frame on a line, byte by byte. */
public final class Promise10OnLineTest {
    private static final Due DUE = new Due("promise 10");

    public static void main(String[] args) {
        theFrameIsAsTold();
        aSmallFrameIsFilledUp();
        theLastFragmentIsFilledUp();
        aFrameIsMadeAnew();
        noneTellsTheSize();
        bytesBeyondAreNotThere();
        otherLinesHaveNone();
        DUE.end();
    }

    /** 300 bytes over link 4 of MOST 100: 308 bytes in fragments of 56, the last one of 28. */
    private static void theFrameIsAsTold() {
        DUE.sentence("32 if more fragments follow, else 0, and the fragment's place divided by 8");
        TwinNetwork x = Made.withLink(4, 2, 4, 100, 3, 4 * 50 + 3);
        x.write(4, 300, 200);
        int[] datagram = FrameBytes.datagram(4, 300, 200);
        x.tick(1);
        for (int i = 0; i < 6; i++) {
            int[] fragment = Arrays.copyOfRange(datagram, 56 * i, Math.min(308, 56 * i + 56));
            for (int network = 0; network < 2; network++) {
                FrameBytes.compare(DUE, x, network, 2, FrameBytes.of(4, 2, network, fragment, 0, 56 * i, i < 5, i));
            }
            x.tick(12);
            FrameBytes.compare(DUE, x, 1, 11, FrameBytes.of(4, 2, 1, fragment, 0, 56 * i, i < 5, i));
            x.tick(4);
        }
    }

    /** The smallest datagram has 9 bytes; one of 25 fills a frame of 64 without zeros; one of 89 is the greatest. */
    private static void aSmallFrameIsFilledUp() {
        DUE.sentence("zeros, as many as it takes that the frame has 64 bytes");
        int[][] sizes = {{1, 64}, {15, 64}, {16, 64}, {17, 64}, {18, 65}, {19, 66}, {80, 127}, {81, 128}};
        for (int[] a : sizes) {
            for (int source : new int[] {0, 1}) {
                TwinNetwork x = Made.withLink(0, source, 4, 128, 4, 4);
                x.write(0, a[0], 255);
                x.tick(1);
                DUE.is("onLine(0, " + source + ", -1) of " + a[0], x.onLine(0, source, -1), a[1]);
                int[] datagram = FrameBytes.datagram(0, a[0], 255);
                FrameBytes.compare(DUE, x, 0, source, FrameBytes.of(0, source, 0, datagram, 0, 0, false, 0));
                FrameBytes.compare(DUE, x, 1, source, FrameBytes.of(0, source, 1, datagram, 0, 0, false, 0));
            }
        }
    }

    /** A datagram of 89 bytes over fragments of 88: the second one has one byte. */
    private static void theLastFragmentIsFilledUp() {
        DUE.sentence("zeros, as many as it takes that the frame has 64 bytes");
        TwinNetwork x = Made.withLink(0, 0, 4, 128, 8, 6);
        x.write(0, 81, 3);
        int[] datagram = FrameBytes.datagram(0, 81, 3);
        x.tick(1);
        FrameBytes.compare(DUE, x, 0, 0, FrameBytes.of(0, 0, 0, Arrays.copyOf(datagram, 88), 0, 0, true, 0));
        x.tick(16);
        int[] last = Arrays.copyOfRange(datagram, 88, 89);
        FrameBytes.compare(DUE, x, 0, 0, FrameBytes.of(0, 0, 0, last, 0, 88, false, 1));
    }

    /** A small frame comes after a great one, and a great one after a small one: nothing of the other is left. */
    private static void aFrameIsMadeAnew() {
        DUE.sentence("zeros, as many as it takes that the frame has 64 bytes; a SEQUENCE number; a CHECK of 4 bytes");
        TwinNetwork x = Made.withLink(0, 1, 4, 128, 4, 4);
        int[] sizes = {81, 1, 40, 5};
        for (int i = 0; i < sizes.length; i++) {
            x.write(0, sizes[i], 255);
            x.tick(1);
            int[] datagram = FrameBytes.datagram(0, sizes[i], 255);
            FrameBytes.compare(DUE, x, 0, 1, FrameBytes.of(0, 1, 0, datagram, i, 0, false, i));
            x.tick(15);
        }
    }

    private static TwinNetwork withAFrame() {
        TwinNetwork x = Made.withLink(0, 0, 4, 64, 2, 4);
        x.write(0, 5, 1);
        x.tick(1);
        return x;
    }

    private static void noneTellsTheSize() {
        DUE.sentence("k NONE: how many bytes it has");
        for (int size : new int[] {64, 65, 200}) {
            TwinNetwork x = new TwinNetwork();
            x.babble(0, 0, 0, size, 0);
            x.tick(1);
            DUE.is("onLine(0, 0, NONE) of " + size, x.onLine(0, 0, TwinNetwork.NONE), size);
        }
    }

    private static void bytesBeyondAreNotThere() {
        DUE.sentence("A byte of the frame that is on a line of a network, k NONE: how many bytes it has; NONE if there is none.");
        TwinNetwork x = withAFrame();
        DUE.is("onLine(0, 0, 0)", x.onLine(0, 0, 0), 3);
        DUE.isTrue("onLine(0, 0, 63)", x.onLine(0, 0, 63) >= 0);
        for (int k : new int[] {-2, 64, 65, 199, 200, Integer.MAX_VALUE, Integer.MIN_VALUE}) {
            DUE.is("onLine(0, 0, " + k + ")", x.onLine(0, 0, k), -1);
        }
    }

    private static void otherLinesHaveNone() {
        DUE.sentence("NONE if there is none");
        TwinNetwork x = withAFrame();
        int[][] none = {{-1, 0}, {2, 0}, {0, -1}, {0, 12}, {0, 1}, {0, 8}, {0, 11}, {1, 12}, {1, -1},
            {Integer.MAX_VALUE, 0}, {0, Integer.MIN_VALUE}};
        for (int[] a : none) {
            DUE.is("onLine(" + a[0] + ", " + a[1] + ", -1)", x.onLine(a[0], a[1], -1), -1);
            DUE.is("onLine(" + a[0] + ", " + a[1] + ", 0)", x.onLine(a[0], a[1], 0), -1);
        }
        x.tick(8);
        DUE.is("onLine(0, 0, -1) when it arrived", x.onLine(0, 0, -1), -1);
        DUE.is("onLine(0, 0, 0) when it arrived", x.onLine(0, 0, 0), -1);
        DUE.is("onLine(0, 8, 0)", x.onLine(0, 8, 0), 3);
    }
}
