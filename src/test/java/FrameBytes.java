import java.util.zip.CRC32;

/** The bytes of a frame as the document tells them, for tests to compare with. */
final class FrameBytes {
    private FrameBytes() {
    }

    static int[] of(int link, int source, int network, int[] fragment, int number, int place, boolean more,
            int sequence) {
        int told = 20 + fragment.length;
        int[] head = {3, 0, 0, 0, 0, link, 2, 0, 0, 0, source, network == 0 ? 32 : 64, 8, 0,
            69, 0, told / 256, told % 256, number / 256, number % 256, more ? 32 : 0, place / 8, 1, 17, 0, 0,
            10, 1, source, 1, 224, 224, 0, link};
        int sum = 0;
        for (int k = 14; k < 34; k += 2) {
            sum += head[k] * 256 + head[k + 1];
        }
        // Of ten numbers of 16 bits: what is above 16 bits counts as ones, so 65535 goes round to 0.
        int folded = (sum - 1) % 65535 + 1;
        head[24] = (65535 - folded) / 256;
        head[25] = (65535 - folded) % 256;
        int[] frame = new int[Math.max(64, fragment.length + 39)];
        System.arraycopy(head, 0, frame, 0, head.length);
        System.arraycopy(fragment, 0, frame, head.length, fragment.length);
        frame[frame.length - 5] = sequence;
        CRC32 crc = new CRC32();
        for (int k = 0; k < frame.length - 4; k++) {
            crc.update(frame[k]);
        }
        for (int k = 0; k < 4; k++) {
            frame[frame.length - 4 + k] = (int) (crc.getValue() >> 8 * k & 255);
        }
        return frame;
    }

    static void compare(Due due, TwinNetwork x, int network, int line, int[] frame) {
        String call = "onLine(" + network + ", " + line + ", ";
        due.is(call + "-1)", x.onLine(network, line, -1), frame.length);
        for (int k = 0; k < frame.length; k++) {
            due.is(call + k + ")", x.onLine(network, line, k), frame[k]);
        }
        due.is(call + frame.length + ")", x.onLine(network, line, frame.length), -1);
    }
}
