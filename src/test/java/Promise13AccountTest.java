/** Promise 13, and what the Terms say of ACCOUNTS: the ACCOUNT of a link in a network. */
public final class Promise13AccountTest {
    private static final Due DUE = new Due("promise 13");

    public static void main(String[] args) {
        otherAccountsAreNotThere();
        accountsAreFullAtFirst();
        accountsGrowAtTheEndOfATick();
        anAccountIsNeverAboveItsFirst();
        aFrameIsPaidAtTheFirstSwitch();
        eachNetworkHasItsOwn();
        whatItJustCoversGoesOn();
        whatItDoesNotCoverIsDropped();
        anAccountCanBeEmptied();
        DUE.end();
    }

    private static void otherAccountsAreNotThere() {
        DUE.sentence("The ACCOUNT of a link in a network; NONE if there is none.");
        TwinNetwork x = Made.withLink(0, 0, 4, 64, 2, 4);
        DUE.is("account(0, 0)", x.account(0, 0), 5120);
        int[][] none = {{-1, 0}, {2, 0}, {0, 1}, {1, 7}, {0, -1}, {0, 8}, {0, 32}, {Integer.MAX_VALUE, 0},
            {0, Integer.MIN_VALUE}, {2, 8}};
        for (int[] a : none) {
            DUE.is("account(" + a[0] + ", " + a[1] + ")", x.account(a[0], a[1]), -1);
        }
    }

    private static void accountsAreFullAtFirst() {
        DUE.sentence("ACCOUNTS are at first, and at most, MOST times (GAP + 64)");
        int[][] links = {{4, 64, 5120}, {4, 128, 10240}, {9, 64, 36864}, {9, 128, 73728}, {6, 101, 12928}};
        for (int[] a : links) {
            TwinNetwork x = new TwinNetwork();
            x.tick(100);
            x.link(7, 0, a[0], a[1], 2, 4);
            DUE.is("account(0, 7) with MOST " + a[1], x.account(0, 7), a[2]);
            DUE.is("account(1, 7) with MOST " + a[1], x.account(1, 7), a[2]);
            x.tick(2000);
            DUE.is("account(0, 7) with MOST " + a[1] + " later", x.account(0, 7), a[2]);
        }
    }

    /** A frame of 65 bytes costs 65 * 16; in the tick in which it is paid the account grows already. */
    private static void accountsGrowAtTheEndOfATick() {
        DUE.sentence("and grow by MOST at the end of each tick");
        TwinNetwork x = Made.withLink(0, 0, 4, 70, 4, 4);
        x.babble(0, 0, 0, 65, 0);
        x.tick(9);
        DUE.is("account(0, 0) at 9", x.account(0, 0), 5600);
        for (int ticks = 1; ticks <= 14; ticks++) {
            x.tick(1);
            DUE.is("account(0, 0) at " + (9 + ticks), x.account(0, 0), 5600 - 1040 + 70 * ticks);
        }
        // 60 are missing, and 70 would come.
        x.tick(1);
        DUE.is("account(0, 0) at 24", x.account(0, 0), 5600);
    }

    private static void anAccountIsNeverAboveItsFirst() {
        DUE.sentence("ACCOUNTS are at first, and at most, MOST times (GAP + 64)");
        TwinNetwork x = Made.withLink(0, 0, 4, 100, 4, 4);
        x.tick(2000);
        DUE.is("account(0, 0) at 2000", x.account(0, 0), 8000);
        x.write(0, 1, 1);
        x.tick(9);
        DUE.is("account(1, 0) at 2009", x.account(1, 0), 8000 - 1024 + 100);
        x.tick(9);
        DUE.is("account(1, 0) at 2018", x.account(1, 0), 8000 - 1024 + 1000);
        x.tick(1);
        DUE.is("account(1, 0) at 2019", x.account(1, 0), 8000);
        x.tick(2000);
        DUE.is("account(1, 0) at 4019", x.account(1, 0), 8000);
    }

    /** Over lines 0, 8, 9 and 6, by three switches. */
    private static void aFrameIsPaidAtTheFirstSwitch() {
        DUE.sentence("5, if it came by a line 0 .. 3");
        TwinNetwork x = Made.withLink(0, 0, 9, 64, 4, 4);
        x.write(0, 1, 1);
        x.tick(8);
        DUE.is("account(0, 0) at 8", x.account(0, 0), 36864);
        x.tick(1);
        DUE.is("account(0, 0) at 9", x.account(0, 0), 36864 - 32768 + 64);
        x.tick(24);
        DUE.is("account(0, 0) at 33", x.account(0, 0), 36864 - 32768 + 25 * 64);
        DUE.is("port(2, 0) at 33", x.port(2, 0), 1);
        DUE.drops("at 33", x, 9, 1);
    }

    private static void eachNetworkHasItsOwn() {
        DUE.sentence("its link's ACCOUNT (of this network)");
        for (int network = 0; network < 2; network++) {
            TwinNetwork x = Made.withLink(0, 0, 9, 64, 8, 4);
            x.link(1, 0, 9, 64, 8, 4);
            x.babble(network, 0, 0, 64, 0);
            x.tick(9);
            DUE.is("account(" + network + ", 0)", x.account(network, 0), 36864 - 32768 + 64);
            DUE.is("account(" + (1 - network) + ", 0)", x.account(1 - network, 0), 36864);
            DUE.is("account(" + network + ", 1)", x.account(network, 1), 36864);
        }
    }

    /**
     * MOST 64 and GAP 512: 36864, of which a frame of 64 bytes takes 32768. The first one arrives in tick 8;
     * in tick 456 there is just enough for another.
     */
    private static void whatItJustCoversGoesOn() {
        DUE.sentence("its link's ACCOUNT (of this network) is less than its bytes times GAP; "
                + "otherwise the account has that less");
        TwinNetwork x = secondFrameAt(448);
        DUE.is("account(1, 0) at 457", x.account(1, 0), 64);
        DUE.drops("with just enough", x, 10, 1);
        DUE.is("onLine(1, 7, -1) at 457", x.onLine(1, 7, -1), 64);
        TwinNetwork early = secondFrameAt(447);
        DUE.is("account(1, 0) at 456 with a frame that came early", early.account(1, 0), 4096 + 448 * 64);
        DUE.drops("with a frame that came early", early, 5, 1, 10, 1);
        DUE.is("onLine(1, 7, -1) at 456", early.onLine(1, 7, -1), -1);
    }

    private static TwinNetwork secondFrameAt(int time) {
        TwinNetwork x = Made.withLink(0, 0, 9, 64, 8, 4);
        x.babble(1, 0, 0, 64, 0);
        x.tick(17);
        DUE.is("account(1, 0) at 17", x.account(1, 0), 4096 + 9 * 64);
        x.tick(time - 17);
        x.babble(1, 0, 0, 64, 1);
        x.tick(9);
        return x;
    }

    /**
     * MOST 65, GAP 512: 37440, less 65 * 512 is 4160, in tick 9. A frame of 64 bytes costs 32768: 65 * 440 is
     * 28600, and 4160 + 28600 is 8 less than that.
     */
    private static void whatItDoesNotCoverIsDropped() {
        DUE.sentence("its link's ACCOUNT (of this network) is less than its bytes times GAP");
        TwinNetwork x = Made.withLink(0, 0, 9, 65, 8, 4);
        x.babble(0, 0, 0, 65, 0);
        x.tick(10);
        DUE.is("account(0, 0) at 10", x.account(0, 0), 4160 + 65);
        x.tick(431);
        x.babble(0, 0, 0, 64, 1);
        x.tick(8);
        DUE.is("account(0, 0) at 449", x.account(0, 0), 32768 - 8);
        x.tick(1);
        DUE.drops("with 8 too few", x, 5, 1, 10, 1);
        DUE.is("account(0, 0) when nothing was paid", x.account(0, 0), 32768 - 8 + 65);
        x.babble(0, 0, 0, 64, 2);
        x.tick(9);
        DUE.drops("with enough", x, 5, 1, 10, 1);
        DUE.is("account(0, 0) when it was paid", x.account(0, 0), 65 * 10 - 8);
    }

    /** MOST 64, GAP 16: 5120. Each frame takes 1024 and gets 512 back: the ninth has just enough, the tenth not. */
    private static void anAccountCanBeEmptied() {
        DUE.sentence("is less than its bytes times GAP; otherwise the account has that less");
        TwinNetwork x = Made.withLink(0, 0, 4, 64, 8, 4);
        for (int n = 0; n < 12; n++) {
            x.babble(0, 0, 0, 64, n);
        }
        x.tick(8);
        int[] due = {4160, 3648, 3136, 2624, 2112, 1600, 1088, 576, 64, 576, 64, 576};
        int[] drops = {0, 0, 0, 0, 0, 0, 0, 0, 0, 1, 1, 2};
        for (int n = 0; n < 12; n++) {
            x.tick(1);
            DUE.is("account(0, 0) after frame " + n, x.account(0, 0), due[n]);
            DUE.is("dropped(5) after frame " + n, x.dropped(5), drops[n]);
            x.tick(7);
        }
    }
}
