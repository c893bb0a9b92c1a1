/** Promise 13: the ACCOUNT of a link in a network. */
public final class Promise13AccountTest {
    private static final Due DUE = new Due("promise 13");

    public static void main(String[] args) {
        otherAccountsAreNotThere();
        aFrameIsPaidAtTheFirstSwitch();
        anAccountIsNeverAboveItsFirst();
        whatItDoesNotCoverIsDropped();
        DUE.end();
    }

    private static void otherAccountsAreNotThere() {
        TwinNetwork x = new TwinNetwork();
        x.link(0, 0, 4, 64, 2, 4);
        x.link(7, 0, 9, 128, 2, 4);
        DUE.is("account(0, 0)", x.account(0, 0), 5120);
        DUE.is("account(1, 0)", x.account(1, 0), 5120);
        DUE.is("account(0, 7)", x.account(0, 7), 73728);
        int[][] none = {{-1, 0}, {2, 0}, {0, 1}, {0, -1}, {0, 8}, {Integer.MAX_VALUE, 0}, {0, Integer.MIN_VALUE}};
        for (int[] a : none) {
            DUE.is("account(" + a[0] + ", " + a[1] + ")", x.account(a[0], a[1]), -1);
        }
    }

    /** A frame of 65 bytes over lines 0, 8, 9 and 6 costs 65 * 16, once. */
    private static void aFrameIsPaidAtTheFirstSwitch() {
        TwinNetwork x = new TwinNetwork();
        x.link(0, 0, 4, 70, 4, 4);
        x.babble(0, 0, 0, 65, 0);
        x.tick(9);
        DUE.is("account(0, 0) at 9", x.account(0, 0), 5600);
        x.tick(1);
        DUE.is("account(0, 0) at 10", x.account(0, 0), 5600 - 1040 + 70);
        DUE.is("account(1, 0) at 10", x.account(1, 0), 5600);
        x.tick(1);
        DUE.is("account(0, 0) at 11", x.account(0, 0), 5600 - 1040 + 140);
        x.tick(12);
        DUE.is("account(0, 0) at 23", x.account(0, 0), 5600 - 1040 + 980);
        x.tick(1);
        DUE.is("account(0, 0) at 24", x.account(0, 0), 5600);
    }

    private static void anAccountIsNeverAboveItsFirst() {
        TwinNetwork x = new TwinNetwork();
        x.link(0, 0, 4, 100, 4, 4);
        x.tick(2000);
        DUE.is("account(0, 0) at 2000", x.account(0, 0), 8000);
        x.write(0, 1, 1);
        x.tick(9);
        DUE.is("account(1, 0) at 2009", x.account(1, 0), 8000 - 1024 + 100);
        x.tick(2000);
        DUE.is("account(1, 0) at 4009", x.account(1, 0), 8000);
    }

    /**
     * MOST 64 and GAP 512: 36864, of which a frame of 64 bytes takes 32768. The first one arrives in tick 8;
     * 448 ticks later there is just enough for another.
     */
    private static void whatItDoesNotCoverIsDropped() {
        TwinNetwork early = secondFrameAt(447);
        DUE.is("account(1, 0) at 456 with a frame that came early", early.account(1, 0), 4096 + 448 * 64);
        DUE.is("dropped(5) with a frame that came early", early.dropped(5), 1);
        TwinNetwork x = secondFrameAt(448);
        DUE.is("account(1, 0) at 457", x.account(1, 0), 64);
        DUE.is("dropped(5)", x.dropped(5), 0);
    }

    private static TwinNetwork secondFrameAt(int time) {
        TwinNetwork x = new TwinNetwork();
        x.link(0, 0, 9, 64, 8, 4);
        x.babble(1, 0, 0, 64, 0);
        x.tick(17);
        DUE.is("account(1, 0) at 17", x.account(1, 0), 4096 + 9 * 64);
        x.tick(time - 17);
        x.babble(1, 0, 0, 64, 1);
        x.tick(9);
        return x;
    }
}
