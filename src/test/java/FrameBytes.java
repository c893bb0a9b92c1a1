import java.util.zip.CRC32;

/** The bytes of a frame as the document tells them, for tests to compare with. */
final class FrameBytes {
    private FrameBytes() {
    }

    static int[] datagram(int l, int size, int seed) {
        int[] datagram = new int[size + 8];
        int[] head = {3, 232 + l, 7, 208 + l, (size + 8) / 256, (size + 8) % 256, 0, 0};
        System.arraycopy(head, 0, datagram, 0, 8);
        for (int i = 0; i < size; i++) {
            datagram[8 + i] = seed + 37 * i + i * i / 8 & 255;
        }
        return datagram;
    }

    static int[] of(int link, int source, int network, int[] fragment, int number, int place, boolean more,
            int sequence) {
        int told = 20 + fragment.length;
        int[] head = {3, 0, 0, 0, 0, link, 2, 0, 0, 0, source, network == 0 ? 32 : 64, 8, 0,
            69, 0, told / 256, told % 256, number / 256, number % 256, more ? 32 : 0, place / 8, 1, 17, 0, 0,
            10, 1, source, 1, 224, 224, 0, link};
        int[] frame = new int[Math.max(64, fragment.length + 39)];
        System.arraycopy(head, 0, frame, 0, head.length);
        System.arraycopy(fragment, 0, frame, head.length, fragment.length);
        frame[frame.length - 5] = sequence;
        sum(frame);
        check(frame);
        return frame;
    }

    /** Puts in the SUM that the other bytes ask for. */
    static void sum(int[] frame) {
        frame[24] = 0;
        frame[25] = 0;
        int sum = 0;
        for (int k = 14; k < 34; k += 2) {
            sum += frame[k] * 256 + frame[k + 1];
        }
        // Of ten numbers of 16 bits: what is above 16 bits counts as ones, so 65535 goes round to 0.
        int folded = (sum - 1) % 65535 + 1;
        frame[24] = (65535 - folded) / 256;
        frame[25] = (65535 - folded) % 256;
    }

    /** Puts in the CHECK that the other bytes ask for. */
    static void check(int[] frame) {
        CRC32 crc = new CRC32();
        for (int k = 0; k < frame.length - 4; k++) {
            crc.update(frame[k]);
        }
        for (int k = 0; k < 4; k++) {
            frame[frame.length - 4 + k] = (int) (crc.getValue() >> 8 * k & 255);
        }
    }

    static void compare(Due due, TwinNetwork x, int network, int line, int[] frame) {
        String call = "onLine(" + network + ", " + line + ", ";
        due.is(call + "-1)", x.onLine(network, line, -1), frame.length);
        for (int k = 0; k < frame.length; k++) {
            due.is(call + k + ")", x.onLine(network, line, k), frame[k]);
        }
        due.is(call + frame.length + ")", x.onLine(network, line, frame.length), -1);
    }
}
