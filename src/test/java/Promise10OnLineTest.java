/** Promise 10: the frame on a line, byte by byte. */
public final class Promise10OnLineTest {
    private static final Due DUE = new Due("promise 10");

    public static void main(String[] args) {
        theFrameIsAsTold();
        aSmallFrameIsFilledUp();
        aLongFrameIsNot();
        otherLinesHaveNone();
        DUE.end();
    }

    private static int[] datagram(int l, int size, int seed) {
        int[] datagram = new int[size + 8];
        int[] head = {3, 232 + l, 7, 208 + l, (size + 8) / 256, (size + 8) % 256, 0, 0};
        System.arraycopy(head, 0, datagram, 0, 8);
        for (int i = 0; i < size; i++) {
            datagram[8 + i] = seed + 37 * i + i * i / 8 & 255;
        }
        return datagram;
    }

    /** 300 bytes over link 4 of MOST 100: 308 bytes in fragments of 56, the last one of 28. */
    private static void theFrameIsAsTold() {
        TwinNetwork x = new TwinNetwork();
        x.link(4, 2, 4, 100, 3, 4 * 50 + 3);
        x.write(4, 300, 200);
        int[] datagram = datagram(4, 300, 200);
        x.tick(1);
        for (int i = 0; i < 6; i++) {
            int[] fragment = java.util.Arrays.copyOfRange(datagram, 56 * i, Math.min(308, 56 * i + 56));
            for (int network = 0; network < 2; network++) {
                FrameBytes.compare(DUE, x, network, 2, FrameBytes.of(4, 2, network, fragment, 0, 56 * i, i < 5, i));
            }
            x.tick(12);
            FrameBytes.compare(DUE, x, 1, 11, FrameBytes.of(4, 2, 1, fragment, 0, 56 * i, i < 5, i));
            x.tick(4);
        }
    }

    private static void aSmallFrameIsFilledUp() {
        TwinNetwork x = new TwinNetwork();
        x.link(0, 1, 4, 128, 4, 4);
        x.write(0, 81, 255);
        x.write(0, 1, 255);
        x.tick(1);
        FrameBytes.compare(DUE, x, 0, 1, FrameBytes.of(0, 1, 0, datagram(0, 81, 255), 0, 0, false, 0));
        x.tick(16);
        FrameBytes.compare(DUE, x, 0, 1, FrameBytes.of(0, 1, 0, datagram(0, 1, 255), 1, 0, false, 1));
    }

    private static void aLongFrameIsNot() {
        TwinNetwork x = new TwinNetwork();
        x.link(0, 1, 4, 128, 4, 4);
        x.write(0, 18, 7);
        x.tick(1);
        DUE.is("onLine(0, 1, -1)", x.onLine(0, 1, -1), 65);
        FrameBytes.compare(DUE, x, 0, 1, FrameBytes.of(0, 1, 0, datagram(0, 18, 7), 0, 0, false, 0));
    }

    private static void otherLinesHaveNone() {
        TwinNetwork x = new TwinNetwork();
        x.link(0, 0, 4, 64, 2, 4);
        x.write(0, 5, 1);
        DUE.is("onLine(0, 0, -1) before the tick", x.onLine(0, 0, -1), -1);
        x.tick(1);
        int[][] none = {{-1, 0, -1}, {2, 0, -1}, {0, -1, -1}, {0, 12, -1}, {0, 1, -1}, {0, 1, 0},
            {0, 0, -2}, {0, 0, 64}, {0, 0, Integer.MAX_VALUE}, {0, 0, Integer.MIN_VALUE}};
        for (int[] a : none) {
            DUE.is("onLine(" + a[0] + ", " + a[1] + ", " + a[2] + ")", x.onLine(a[0], a[1], a[2]), -1);
        }
        x.tick(8);
        DUE.is("onLine(0, 0, -1) when it arrived", x.onLine(0, 0, -1), -1);
        DUE.is("onLine(0, 0, 0) when it arrived", x.onLine(0, 0, 0), -1);
        DUE.is("onLine(0, 8, 0)", x.onLine(0, 8, 0), 3);
    }
}
