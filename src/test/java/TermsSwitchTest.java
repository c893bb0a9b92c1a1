/** Terms: what happens to a frame AT A SWITCH. (What an ACCOUNT covers: Promise13AccountTest.) */
public final class TermsSwitchTest {
    private static final Due DUE = new Due("terms: at a switch");

    public static void main(String[] args) {
        aWrongCheckIsDropped();
        aLinkMustBeSetUp();
        theFirstBytesMustBeAsTold();
        theLineMustBeOnThePaths();
        aFrameHasAtMostMostBytes();
        theFirstReasonCounts();
        aFrameGoesIntoAllRows();
        aFrameIsDroppedForEachRow();
        aFrameIsDroppedForOneRowAlone();
        DUE.end();
    }

    /** Each line that ends at a switch, with an end system whose link to all others goes over it. */
    private static void aWrongCheckIsDropped() {
        DUE.sentence("AT A SWITCH a frame is DROPPED, with the first of these reasons: 1 its CHECK is wrong");
        int[][] lines = {{0, 0}, {1, 1}, {2, 2}, {3, 3}, {8, 0}, {9, 0}, {10, 2}, {11, 2}};
        for (int[] a : lines) {
            for (int place : new int[] {0, 5, 59, 60, 63}) {
                TwinNetwork x = Made.withLink(0, a[1], 4, 64, 15 - (1 << a[1]), 6);
                x.babble(1, a[1], 0, 64, 0);
                x.harm(1, a[0], place, 1);
                x.tick(60);
                DUE.is("dropped(1) with byte " + place + " harmed on line " + a[0], x.dropped(1), 1);
            }
        }
    }

    private static void aLinkMustBeSetUp() {
        DUE.sentence("2 its link isn't set up");
        for (int l = 0; l < 8; l++) {
            TwinNetwork x = Made.fromZeroToThree(1, Made.QUEUING);
            x.babble(0, 0, l, 64, 0);
            x.tick(8);
            DUE.drops("before a frame of link " + l + " arrives", x);
            x.tick(1);
            DUE.drops("when a frame of link " + l + " arrived", x, 2, l == 0 ? 0 : 1);
            DUE.is("onLine(0, 7, -1)", x.onLine(0, 7, -1), l == 0 ? 64 : -1);
        }
        TwinNetwork late = new TwinNetwork();
        late.babble(0, 0, 0, 64, 0);
        late.tick(8);
        late.link(0, 0, 4, 64, 8, 4);
        late.tick(1);
        DUE.drops("when the link is set up while the frame is on the line", late);
    }

    /** No call makes such frames: they are forged. */
    private static void theFirstBytesMustBeAsTold() {
        DUE.sentence("2 its link isn't set up (bytes 0 .. 5 must be as told)");
        int[][] wrong = {{0, 2}, {0, 0}, {0, 131}, {1, 1}, {2, 1}, {3, 1}, {4, 1}, {4, 255}, {5, 1}, {5, 8}, {5, 16},
            {5, 255}};
        for (int[] a : wrong) {
            for (int line : new int[] {0, 8}) {
                TwinNetwork x = Made.withLink(0, 0, 4, 64, 2, 4);
                int[] frame = FrameBytes.of(0, 0, 0, new int[25], 0, 0, false, 0);
                Forged.put(x, 0, line, frame);
                x.tick(9);
                DUE.drops("with a right frame on line " + line, x);
                frame[a[0]] = a[1];
                FrameBytes.check(frame);
                Forged.put(x, 0, line, frame);
                x.tick(9);
                DUE.is("dropped(2) with byte " + a[0] + " " + a[1] + " on line " + line, x.dropped(2), 1);
                DUE.is("dropped(1)", x.dropped(1), 0);
            }
        }
    }

    private static void theLineMustBeOnThePaths() {
        DUE.sentence("3 it came by a line that isn't on the link's paths");
        for (int e = 0; e < 4; e++) {
            TwinNetwork x = Made.fromZeroToThree(1, Made.QUEUING);
            x.babble(0, e, 0, 64, 0);
            x.tick(9);
            DUE.drops("with a frame of link 0 by line " + e, x, 3, e == 0 ? 0 : 1);
            DUE.is("account(0, 0)", x.account(0, 0), e == 0 ? 5120 - 1024 + 64 : 5120);
        }
        // No call brings a frame to these lines unless its link goes over them: it is forged.
        for (int line = 8; line < 12; line++) {
            TwinNetwork x = Made.withLink(0, 0, 4, 64, 2, 4);
            Forged.put(x, 0, line, FrameBytes.of(0, 0, 0, new int[25], 0, 0, false, 0));
            x.tick(9);
            DUE.drops("with a frame of link 0 by line " + line, x, 3, line == 8 ? 0 : 1);
        }
    }

    private static void aFrameHasAtMostMostBytes() {
        DUE.sentence("4 it has more than MOST bytes");
        for (int most : new int[] {64, 65, 100, 127, 128}) {
            for (int size : new int[] {most, most + 1, 200}) {
                TwinNetwork x = Made.withLink(0, 0, 4, most, 8, 4);
                x.babble(1, 0, 0, size, 0);
                x.tick((size + 7) / 8 + 1);
                String when = "with " + size + " bytes of " + most;
                DUE.drops(when, x, 4, size > most ? 1 : 0);
                DUE.is("onLine(1, 7, -1) " + when, x.onLine(1, 7, -1), size > most ? -1 : size);
                int paid = size > most ? 0 : 16 * size - most;
                DUE.is("account(1, 0) " + when, x.account(1, 0), most * 80 - paid);
            }
        }
        // The first switch lets no such frame pass: it is forged.
        for (int size : new int[] {64, 65}) {
            TwinNetwork x = Made.withLink(0, 0, 4, 64, 2, 4);
            Forged.put(x, 0, 8, FrameBytes.of(0, 0, 0, new int[size - 39], 0, 0, false, 0));
            x.tick(10);
            DUE.drops("with " + size + " bytes of 64 by line 8", x, 4, size > 64 ? 1 : 0);
        }
    }

    private static void theFirstReasonCounts() {
        DUE.sentence("AT A SWITCH a frame is DROPPED, with the first of these reasons");
        TwinNetwork x = Made.fromZeroToThree(1, Made.QUEUING);
        x.babble(0, 1, 5, 200, 0);
        x.harm(0, 1, 100, 7);
        x.tick(26);
        DUE.drops("with a wrong check, no link and too many bytes", x, 1, 1);
        x.babble(0, 1, 5, 200, 0);
        x.tick(26);
        DUE.drops("with no link and too many bytes", x, 1, 1, 2, 1);
        x.babble(0, 1, 0, 200, 0);
        x.tick(26);
        DUE.drops("with a wrong line and too many bytes", x, 1, 1, 2, 1, 3, 1);
        theLengthComesBeforeTheAccount();
        theAccountComesBeforeTheRoom();
    }

    /** GAP 512: the account covers one frame. */
    private static void theLengthComesBeforeTheAccount() {
        TwinNetwork x = Made.withLink(0, 0, 9, 64, 8, 4);
        x.babble(0, 0, 0, 64, 0);
        x.babble(0, 0, 0, 65, 1);
        x.babble(0, 0, 0, 64, 2);
        x.tick(9);
        DUE.drops("with an account that is just enough", x);
        x.tick(9);
        DUE.drops("with too many bytes and too small an account", x, 4, 1, 10, 1);
        x.tick(8);
        DUE.drops("with too small an account", x, 4, 1, 5, 1, 10, 1);
    }

    private static void theAccountComesBeforeTheRoom() {
        TwinNetwork x = Made.withLink(0, 0, 9, 64, 8, 4);
        x.babble(0, 0, 0, 64, 0);
        x.babble(0, 0, 0, 64, 1);
        x.tick(16);
        fill(x, 7, 4);
        x.tick(1);
        DUE.drops("with too small an account and no room", x, 5, 1, 10, 1);
    }

    /** Frames of no link, which are dropped at the line's end. */
    private static void fill(TwinNetwork x, int line, int frames) {
        for (int i = 0; i < frames; i++) {
            Forged.put(x, 0, line, FrameBytes.of(7, 0, 0, new int[25], 0, 0, false, 0));
        }
    }

    /** When it arrives by line 1, in tick 8, lines 9 and 10 are busy with another: it waits before both. */
    private static void aFrameGoesIntoAllRows() {
        DUE.sentence("It goes into the rows of all lines of the link's paths that leave the switch, in their order");
        for (int high = 0; high < 2; high++) {
            TwinNetwork x = Made.withLink(0, 1, 4, 64, 13, 4 + high);
            x.babble(0, 1, 0, 64, 0);
            x.tick(7);
            fill(x, 9, 1);
            fill(x, 10, 1);
            x.tick(2);
            for (int line = 4; line < 12; line++) {
                int due = line == 9 || line == 10 ? 1 : 0;
                DUE.is("waiting(0, " + line + ", " + high + ")", x.waiting(0, line, high), due);
                DUE.is("waiting(0, " + line + ", " + (1 - high) + ")", x.waiting(0, line, 1 - high), 0);
                DUE.is("waiting(1, " + line + ", " + high + ")", x.waiting(1, line, high), 0);
            }
        }
    }

    /**
     * Lines 4 and 7 get frames of 64 bytes by line 10, each 8 ticks, the same ones, and each of them frames of
     * 128 bytes, each 16 ticks: in tick 48 both rows are full, and one frame is dropped twice.
     */
    private static void aFrameIsDroppedForEachRow() {
        DUE.sentence("6 there is no room in a row (for each)");
        TwinNetwork x = Made.withLink(0, 1, 4, 64, 9, 6);
        x.link(1, 3, 4, 128, 1, 6);
        x.link(2, 0, 4, 128, 8, 6);
        for (int i = 0; i < 6; i++) {
            x.babble(0, 1, 0, 64, i);
        }
        for (int i = 0; i < 3; i++) {
            x.babble(0, 3, 1, 128, i);
            x.babble(0, 0, 2, 128, i);
        }
        x.tick(48);
        DUE.is("dropped(6) at 48", x.dropped(6), 0);
        x.tick(1);
        DUE.is("dropped(6) at 49", x.dropped(6), 2);
        x.tick(200);
        DUE.drops("when all others came", x, 6, 2, 10, 2 * 5 + 2 * 3);
    }

    /** A frame arrives by line 10 in tick 16, and is to go to lines 4 and 7. */
    private static void aFrameIsDroppedForOneRowAlone() {
        DUE.sentence("6 there is no room in a row (for each)");
        int[][] fillings = {{3, 3, 0}, {4, 3, 1}, {3, 4, 1}, {4, 4, 2}};
        for (int[] a : fillings) {
            TwinNetwork x = Made.withLink(0, 1, 4, 64, 9, 6);
            x.babble(0, 1, 0, 64, 0);
            x.tick(16);
            fill(x, 4, a[0]);
            fill(x, 7, a[1]);
            x.tick(1);
            String call = " with " + a[0] + " and " + a[1] + " frames in the rows";
            DUE.is("dropped(6)" + call, x.dropped(6), a[2]);
            DUE.is("waiting(0, 4, 0)" + call, x.waiting(0, 4, 0), 3);
            DUE.is("waiting(0, 7, 0)" + call, x.waiting(0, 7, 0), 3);
            x.tick(60);
            DUE.drops("at last" + call, x, 2, a[0] + a[1], 6, a[2], 10, 2 - a[2]);
        }
    }
}
