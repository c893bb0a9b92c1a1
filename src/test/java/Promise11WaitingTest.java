/** Promise 11, and what the Terms say of ROWS: how many frames wait in a line's rows. */
public final class Promise11WaitingTest {
    private static final Due DUE = new Due("promise 11");

    public static void main(String[] args) {
        otherRowsAreNotThere();
        linesFromSystemsHaveOneRow();
        linesFromSystemsHaveRoomForSixteen();
        rowsFromSwitchesHaveRoomForFour();
        bothRowsAreFullTogether();
        rowsThatCannotBeFilledHaveRoomForFour();
        aFrameWithoutRoomIsDropped();
        DUE.end();
    }

    private static void otherRowsAreNotThere() {
        DUE.sentence("NONE if there is none such");
        TwinNetwork x = new TwinNetwork();
        int[][] none = {{-1, 0, 0}, {2, 0, 0}, {0, -1, 0}, {0, 12, 0}, {0, 4, -1}, {0, 4, 2}, {0, 0, -1}, {0, 0, 2},
            {Integer.MAX_VALUE, 0, 0}, {0, Integer.MAX_VALUE, 0}, {0, 0, Integer.MIN_VALUE},
            {1, 11, Integer.MAX_VALUE}};
        for (int[] a : none) {
            DUE.is("waiting(" + a[0] + ", " + a[1] + ", " + a[2] + ")", x.waiting(a[0], a[1], a[2]), -1);
        }
        for (int line = 0; line < 12; line++) {
            DUE.is("waiting(1, " + line + ", 0)", x.waiting(1, line, 0), 0);
            DUE.is("waiting(1, " + line + ", 1)", x.waiting(1, line, 1), 0);
        }
    }

    private static void linesFromSystemsHaveOneRow() {
        DUE.sentence("what 0 not HIGH, 1 HIGH; of lines 0 .. 3 all in 0");
        TwinNetwork x = Made.withLink(0, 3, 4, 64, 1, 5);
        x.link(1, 3, 4, 64, 1, 5);
        x.link(2, 3, 4, 64, 1, 4);
        for (int l = 0; l < 3; l++) {
            x.write(l, 1, 1);
        }
        x.tick(1);
        DUE.is("waiting(0, 3, 0)", x.waiting(0, 3, 0), 2);
        DUE.is("waiting(0, 3, 1)", x.waiting(0, 3, 1), 0);
        DUE.is("waiting(1, 3, 0)", x.waiting(1, 3, 0), 2);
        x.tick(8);
        DUE.is("waiting(0, 3, 0) at 9", x.waiting(0, 3, 0), 1);
    }

    /** Half of the links are HIGH; each has a frame each 16 ticks, and the line carries two in that time. */
    private static void linesFromSystemsHaveRoomForSixteen() {
        DUE.sentence("lines 0 .. 3 have one row, of at most 16 frames");
        for (int e = 0; e < 4; e++) {
            TwinNetwork x = new TwinNetwork();
            for (int l = 0; l < 8; l++) {
                x.link(l, e, 4, 64, 1 << (e + 1) % 4, 6 + l % 2);
                x.write(l, 184, l);
            }
            x.tick(1);
            DUE.is("waiting(0, " + e + ", 0) at 1", x.waiting(0, e, 0), 7);
            x.tick(16);
            DUE.is("waiting(0, " + e + ", 0) at 17", x.waiting(0, e, 0), 13);
            x.tick(15);
            DUE.is("waiting(0, " + e + ", 0) at 32", x.waiting(0, e, 0), 12);
            DUE.is("dropped(6) at 32", x.dropped(6), 0);
            // Of eight frames four have room, then one is taken: 15 wait.
            x.tick(1);
            DUE.is("dropped(6) at 33, of both networks", x.dropped(6), 8);
            DUE.is("waiting(1, " + e + ", 0) at 33", x.waiting(1, e, 0), 15);
            DUE.isTrue("babble with room for one", x.babble(1, e, 0, 64, 0));
            DUE.is("waiting(1, " + e + ", 0) when it is full", x.waiting(1, e, 0), 16);
            DUE.isFalse("babble without room", x.babble(1, e, 0, 64, 0));
            DUE.is("waiting(1, " + e + ", 0) when it is still full", x.waiting(1, e, 0), 16);
        }
    }

    /** Two end systems babble frames over a line, the second one four ticks later: more than it can carry. */
    private static TwinNetwork crowded(int network, int[] way, int high) {
        TwinNetwork x = Made.withLink(0, way[1], 4, 128, 1 << way[3], 4 + high);
        x.link(1, way[2], 4, 128, 1 << way[3], 4 + high);
        for (int n = 0; n < 16; n++) {
            x.babble(network, way[1], 0, 64, n);
        }
        x.tick(4);
        for (int n = 0; n < 16; n++) {
            x.babble(network, way[2], 1, 64, n);
        }
        return x;
    }

    /** Lines with two end systems whose links can go over them, and a target beyond. */
    private static final int[][] CROWDED = {{4, 3, 1, 0}, {5, 0, 2, 1}, {7, 0, 1, 3}, {8, 0, 3, 1}, {9, 1, 0, 2},
        {10, 1, 2, 0}};

    private static void rowsFromSwitchesHaveRoomForFour() {
        DUE.sentence("others two, HIGH and not, of at most 4 each");
        for (int[] way : CROWDED) {
            for (int network = 0; network < 2; network++) {
                aRowFillsUpToFour(network, way, 0);
                aRowFillsUpToFour(network, way, 1);
            }
        }
    }

    private static void aRowFillsUpToFour(int network, int[] way, int high) {
        String call = "waiting(" + network + ", " + way[0] + ", " + high + ")";
        TwinNetwork x = crowded(network, way, high);
        int greatest = 0;
        for (int i = 0; i < 120; i++) {
            int dropsBefore = x.dropped(6);
            int before = x.waiting(network, way[0], high);
            x.tick(1);
            greatest = Math.max(greatest, x.waiting(network, way[0], high));
            DUE.isTrue(call + " was full when a frame was dropped", x.dropped(6) == dropsBefore || before == 4);
            DUE.is("the other row's " + call, x.waiting(network, way[0], 1 - high), 0);
            DUE.is("the other network's " + call, x.waiting(1 - network, way[0], high), 0);
        }
        DUE.is("the greatest " + call, greatest, 4);
        DUE.isTrue("dropped(6) with " + call, x.dropped(6) > 0);
    }

    /** Frames of links that aren't HIGH fill their row of line 4; then HIGH ones do, and go first. */
    private static void bothRowsAreFullTogether() {
        DUE.sentence("others two, HIGH and not, of at most 4 each");
        TwinNetwork x = new TwinNetwork();
        for (int l = 0; l < 4; l++) {
            x.link(l, l < 2 ? 3 : 1, 4, 128, 1, 4 + l % 2);
        }
        for (int n = 0; n < 14; n++) {
            x.babble(0, 3, n < 6 ? 0 : 1, 64, n);
        }
        x.tick(4);
        for (int n = 0; n < 14; n++) {
            x.babble(0, 1, n < 6 ? 2 : 3, 64, n);
        }
        boolean bothWereFull = false;
        for (int i = 0; i < 130; i++) {
            x.tick(1);
            DUE.isTrue("waiting(0, 4, 0) at " + x.tick(0), x.waiting(0, 4, 0) <= 4);
            DUE.isTrue("waiting(0, 4, 1) at " + x.tick(0), x.waiting(0, 4, 1) <= 4);
            bothWereFull |= x.waiting(0, 4, 0) == 4 && x.waiting(0, 4, 1) == 4;
        }
        DUE.isTrue("both rows were full", bothWereFull);
    }

    /** One line alone leads to lines 6 and 11, as fast as they are: no calls fill their rows. */
    private static void rowsThatCannotBeFilledHaveRoomForFour() {
        DUE.sentence("others two, HIGH and not, of at most 4 each");
        int[] frame = FrameBytes.of(0, 0, 0, new int[25], 0, 0, false, 0);
        for (int line = 4; line < 12; line++) {
            TwinNetwork x = new TwinNetwork();
            for (int i = 0; i < 6; i++) {
                DUE.isTrue("room for frame " + i + " before line " + line,
                        Forged.put(x, 1, line, frame) == i < 4);
            }
            DUE.is("waiting(1, " + line + ", 0)", x.waiting(1, line, 0), 4);
        }
    }

    /** Line 4 gets frames of 128 bytes by line 3, each 16 ticks, and of 64 bytes by line 10, each 8 ticks. */
    private static void aFrameWithoutRoomIsDropped() {
        DUE.sentence("a frame for which there is no room is DROPPED");
        for (int high = 0; high < 2; high++) {
            TwinNetwork x = Made.withLink(0, 3, 4, 128, 1, 4 + high);
            x.link(1, 1, 4, 64, 1, 4 + high);
            for (int i = 0; i < 6; i++) {
                x.babble(0, 1, 1, 64, i);
            }
            for (int i = 0; i < 3; i++) {
                x.babble(0, 3, 0, 128, i);
            }
            int[] due = {0, 1, 2, 3, 3, 3, 4, 3, 2};
            x.tick(9);
            for (int i = 0; i < due.length; i++) {
                String at = ") at " + x.tick(0);
                DUE.is("waiting(0, 4, " + high + at, x.waiting(0, 4, high), due[i]);
                DUE.is("dropped(6" + at, x.dropped(6), i < 5 ? 0 : 1);
                x.tick(8);
            }
            DUE.is("dropped(5)", x.dropped(5), 0);
        }
    }
}
