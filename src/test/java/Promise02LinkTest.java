/** Promise 2, and what the Terms say of LINKS: a link is set up once, with everything as told. */
public final class Promise02LinkTest {
    private static final Due DUE = new Due("promise 2");

    public static void main(String[] args) {
        linksAreEight();
        theSourceIsAnEndSystem();
        gapsAreFrom16To512();
        mostIsFrom64To128();
        targetsAreOtherEndSystems();
        skewsAreFrom1To1000();
        flagsTellHighAndQueuing();
        aRefusedLinkIsNotSetUp();
        aLinkIsSetUpOnce();
        whatIsToldIsUsed();
        DUE.end();
    }

    private static void takes(int l, int source, int gap, int most, int targets, int flags) {
        TwinNetwork x = new TwinNetwork();
        DUE.passes(told(l, source, gap, most, targets, flags), () -> x.link(l, source, gap, most, targets, flags));
        for (int k = 0; k < 8; k++) {
            DUE.is("fragments(" + k + ") after " + told(l, source, gap, most, targets, flags),
                    x.fragments(k), k == l ? 0 : -1);
        }
    }

    private static void refuses(int l, int source, int gap, int most, int targets, int flags) {
        TwinNetwork x = new TwinNetwork();
        DUE.refusesArgument(told(l, source, gap, most, targets, flags),
                () -> x.link(l, source, gap, most, targets, flags));
    }

    private static String told(int l, int source, int gap, int most, int targets, int flags) {
        return "link(" + l + ", " + source + ", " + gap + ", " + most + ", " + targets + ", " + flags + ")";
    }

    private static void linksAreEight() {
        DUE.sentence("LINKS 0 .. 7 are set up or not");
        for (int l = 0; l < 8; l++) {
            takes(l, 0, 4, 64, 2, 4);
        }
        DUE.sentence("IllegalArgumentException: there is no such link");
        for (int l : new int[] {-1, 8, 32, Integer.MIN_VALUE, Integer.MAX_VALUE}) {
            refuses(l, 0, 4, 64, 2, 4);
        }
    }

    private static void theSourceIsAnEndSystem() {
        DUE.sentence("a SOURCE (end system)");
        takes(0, 0, 4, 64, 2, 4);
        takes(0, 3, 4, 64, 2, 4);
        // 32 and 33 would be 0 and 1 again if they were used to shift bits.
        for (int source : new int[] {-1, 4, 32, 33, Integer.MIN_VALUE, Integer.MAX_VALUE}) {
            refuses(0, source, 4, 64, 4, 4);
        }
    }

    private static void gapsAreFrom16To512() {
        DUE.sentence("a GAP of 16 to 512 ticks (a power of two)");
        for (int power = 4; power <= 9; power++) {
            TwinNetwork x = Made.withLink(0, 0, power, 64, 2, 4);
            int gap = new int[] {16, 32, 64, 128, 256, 512}[power - 4];
            DUE.is("account(0, 0) with gap " + power, x.account(0, 0), 64 * (gap + 64));
        }
        DUE.sentence("the power of two of its GAP (4 .. 9)");
        for (int power : new int[] {3, 10, 0, -1, 16, 36, 512, -28, Integer.MIN_VALUE, Integer.MAX_VALUE}) {
            refuses(0, 0, power, 64, 2, 4);
        }
    }

    private static void mostIsFrom64To128() {
        DUE.sentence("the MOST bytes of a frame (64 .. 128)");
        takes(0, 0, 4, 64, 2, 4);
        takes(0, 0, 4, 65, 2, 4);
        takes(0, 0, 4, 127, 2, 4);
        takes(0, 0, 4, 128, 2, 4);
        for (int most : new int[] {63, 129, 0, -64, 200, Integer.MIN_VALUE, Integer.MAX_VALUE}) {
            refuses(0, 0, 4, most, 2, 4);
        }
    }

    private static void targetsAreOtherEndSystems() {
        DUE.sentence("TARGETS (end systems, not the source)");
        for (int source = 0; source < 4; source++) {
            for (int targets = 0; targets < 16; targets++) {
                if (targets > 0 && (targets & 1 << source) == 0) {
                    takes(0, source, 4, 64, targets, 4);
                } else {
                    refuses(0, source, 4, 64, targets, 4);
                }
            }
        }
        int least = Integer.MIN_VALUE;
        for (int targets : new int[] {16, 18, -2, 34, least, least + 2, Integer.MAX_VALUE - 1}) {
            refuses(0, 0, 4, 64, targets, 4);
        }
    }

    private static void skewsAreFrom1To1000() {
        DUE.sentence("a SKEW (1 .. 1000 ticks)");
        for (int more = 0; more < 4; more++) {
            refuses(0, 0, 4, 64, 2, more);
            takes(0, 0, 4, 64, 2, 4 + more);
            takes(0, 0, 4, 64, 2, 4000 + more);
            refuses(0, 0, 4, 64, 2, 4004 + more);
            refuses(0, 0, 4, 64, 2, -4 + more);
            refuses(0, 0, 4, 64, 2, Integer.MIN_VALUE + 4 + more);
            refuses(0, 0, 4, 64, 2, Integer.MAX_VALUE - more);
        }
    }

    private static void flagsTellHighAndQueuing() {
        DUE.sentence("flags: 1 HIGH, 2 QUEUING, and 4 times its SKEW");
        for (int flags = 4; flags < 8; flags++) {
            boolean isHigh = flags % 2 == 1;
            boolean isQueuing = flags >= 6;
            TwinNetwork x = Made.withLink(0, 3, 4, 128, 1, 4);
            x.link(1, 1, 4, 64, 1, flags);
            DUE.is("port(0, 1) with flags " + flags, x.port(0, 1), isQueuing ? 0 : -1);
            // Link 0's frame of 128 bytes is on line 4 from 17 to 33, link 1's comes there in tick 24.
            x.write(0, 81, 1);
            x.tick(8);
            x.write(1, 1, 1);
            x.tick(17);
            DUE.is("waiting(0, 4, 1) with flags " + flags, x.waiting(0, 4, 1), isHigh ? 1 : 0);
            DUE.is("waiting(0, 4, 0) with flags " + flags, x.waiting(0, 4, 0), isHigh ? 0 : 1);
        }
    }

    private static void aRefusedLinkIsNotSetUp() {
        DUE.sentence("IllegalArgumentException: there is no such link, or something isn't as told.");
        TwinNetwork x = new TwinNetwork();
        int[][] wrong = {{-1, 0, 4, 64, 2, 4}, {8, 0, 4, 64, 2, 4}, {0, -1, 4, 64, 2, 4}, {1, 4, 4, 64, 2, 4},
            {2, 0, 3, 64, 2, 4}, {3, 0, 10, 64, 2, 4}, {4, 0, 4, 63, 2, 4}, {5, 0, 4, 129, 2, 4},
            {6, 0, 4, 64, 1, 4}, {7, 0, 4, 64, 16, 4}, {0, 0, 4, 64, 0, 4}, {1, 0, 4, 64, 2, 3},
            {2, 0, 4, 64, 2, 4004}};
        for (int[] a : wrong) {
            DUE.refusesArgument(told(a[0], a[1], a[2], a[3], a[4], a[5]),
                    () -> x.link(a[0], a[1], a[2], a[3], a[4], a[5]));
        }
        for (int l = 0; l < 8; l++) {
            int link = l;
            DUE.is("fragments(" + l + ") after refused links", x.fragments(l), -1);
            DUE.passes("link(" + l + ") after refused links", () -> x.link(link, 0, 4, 64, 2, 4));
        }
    }

    private static void aLinkIsSetUpOnce() {
        DUE.sentence("IllegalStateException: it is set up.");
        TwinNetwork x = Made.withLink(2, 0, 4, 64, 2, 6);
        x.write(2, 30, 1);
        DUE.refusesState("link(2) again", () -> x.link(2, 0, 4, 64, 2, 6));
        DUE.refusesState("link(2) again with something else", () -> x.link(2, 1, 5, 80, 1, 8));
        DUE.refusesArgument("link(2) again and wrong", () -> x.link(2, 0, 4, 64, 1, 4));
        DUE.is("account(0, 2)", x.account(0, 2), 64 * 80);
        DUE.is("fragments(2)", x.fragments(2), 2);
        DUE.is("port(0, 2)", x.port(0, 2), -1);
        DUE.is("port(1, 2)", x.port(1, 2), 0);
        DUE.passes("link(3)", () -> x.link(3, 0, 4, 64, 2, 4));
        DUE.passes("link(1)", () -> x.link(1, 0, 4, 64, 2, 4));
    }

    private static void whatIsToldIsUsed() {
        DUE.sentence("Sets up a link: its source, the power of two of its GAP (4 .. 9), MOST, the targets (bits), "
                + "flags");
        TwinNetwork x = Made.withLink(1, 2, 5, 96, 8 + 1, 4 * 7 + 2 + 1);
        DUE.is("account(1, 1)", x.account(1, 1), 96 * (32 + 64));
        DUE.is("port(0, 1)", x.port(0, 1), 0);
        DUE.is("port(1, 1)", x.port(1, 1), -1);
        DUE.is("port(2, 1)", x.port(2, 1), -1);
        DUE.is("port(3, 1)", x.port(3, 1), 0);
        x.write(1, 1, 0);
        x.tick(1);
        DUE.is("onLine(0, 2, -1)", x.onLine(0, 2, -1), 64);
        DUE.is("onLine(0, 2, 10)", x.onLine(0, 2, 10), 2);
    }
}
