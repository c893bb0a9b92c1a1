/** Promise 11: how many frames wait in a line's rows. */
public final class Promise11WaitingTest {
    private static final Due DUE = new Due("promise 11");

    public static void main(String[] args) {
        otherRowsAreNotThere();
        linesFromSystemsHaveOneRow();
        linesFromSwitchesHaveTwoRowsOfFour();
        DUE.end();
    }

    private static void otherRowsAreNotThere() {
        TwinNetwork x = new TwinNetwork();
        int[][] none = {{-1, 0, 0}, {2, 0, 0}, {0, -1, 0}, {0, 12, 0}, {0, 4, -1}, {0, 4, 2},
            {Integer.MAX_VALUE, 0, 0}, {0, Integer.MAX_VALUE, 0}, {0, 0, Integer.MIN_VALUE}};
        for (int[] a : none) {
            DUE.is("waiting(" + a[0] + ", " + a[1] + ", " + a[2] + ")", x.waiting(a[0], a[1], a[2]), -1);
        }
        for (int line = 0; line < 12; line++) {
            DUE.is("waiting(1, " + line + ", 0)", x.waiting(1, line, 0), 0);
            DUE.is("waiting(1, " + line + ", 1)", x.waiting(1, line, 1), 0);
        }
    }

    private static void linesFromSystemsHaveOneRow() {
        TwinNetwork x = new TwinNetwork();
        x.link(0, 3, 4, 64, 1, 5);
        x.link(1, 3, 4, 64, 1, 5);
        x.link(2, 3, 4, 64, 1, 4);
        for (int l = 0; l < 3; l++) {
            x.write(l, 1, 1);
        }
        x.tick(1);
        DUE.is("waiting(0, 3, 0)", x.waiting(0, 3, 0), 2);
        DUE.is("waiting(0, 3, 1)", x.waiting(0, 3, 1), 0);
        DUE.is("waiting(1, 3, 0)", x.waiting(1, 3, 0), 2);
        x.tick(8);
        DUE.is("waiting(0, 3, 0) at 9", x.waiting(0, 3, 0), 1);
    }

    /** Line 4 gets frames of 128 bytes by line 3, each 16 ticks, and of 64 bytes by line 10, each 8 ticks. */
    private static void linesFromSwitchesHaveTwoRowsOfFour() {
        for (int high = 0; high < 2; high++) {
            TwinNetwork x = new TwinNetwork();
            x.link(0, 3, 4, 128, 1, 4 + high);
            x.link(1, 1, 4, 64, 1, 4 + high);
            for (int i = 0; i < 6; i++) {
                x.babble(0, 1, 1, 64, i);
            }
            for (int i = 0; i < 3; i++) {
                x.babble(0, 3, 0, 128, i);
            }
            int[] due = {0, 1, 2, 3, 3, 3, 4, 3, 2};
            x.tick(9);
            for (int i = 0; i < due.length; i++) {
                String at = ") at " + x.tick(0);
                DUE.is("waiting(0, 4, " + high + at, x.waiting(0, 4, high), due[i]);
                DUE.is("waiting(0, 4, " + (1 - high) + at, x.waiting(0, 4, 1 - high), 0);
                DUE.is("waiting(1, 4, " + high + at, x.waiting(1, 4, high), 0);
                DUE.is("dropped(6" + at, x.dropped(6), i < 5 ? 0 : 1);
                x.tick(8);
            }
            DUE.is("dropped(5)", x.dropped(5), 0);
        }
    }
}
