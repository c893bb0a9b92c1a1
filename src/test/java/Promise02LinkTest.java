/** Promise 2: a link is set up once, with everything as told. */
public final class Promise02LinkTest {
    private static final Due DUE = new Due("promise 2");

    public static void main(String[] args) {
        edgesAreTaken();
        wrongArgumentsAreRefused();
        aLinkIsSetUpOnce();
        whatIsToldIsUsed();
        DUE.end();
    }

    private static void takes(int l, int source, int gap, int most, int targets, int flags) {
        TwinNetwork x = new TwinNetwork();
        DUE.passes(told(l, source, gap, most, targets, flags), () -> x.link(l, source, gap, most, targets, flags));
        DUE.is("fragments(" + l + ")", x.fragments(l), 0);
    }

    private static void refuses(int l, int source, int gap, int most, int targets, int flags) {
        TwinNetwork x = new TwinNetwork();
        DUE.refusesArgument(told(l, source, gap, most, targets, flags),
                () -> x.link(l, source, gap, most, targets, flags));
        for (int k = 0; k < 8; k++) {
            DUE.is("fragments(" + k + ") after a refused link", x.fragments(k), -1);
        }
    }

    private static String told(int l, int source, int gap, int most, int targets, int flags) {
        return "link(" + l + ", " + source + ", " + gap + ", " + most + ", " + targets + ", " + flags + ")";
    }

    private static void edgesAreTaken() {
        takes(0, 0, 4, 64, 2, 4);
        takes(7, 3, 9, 128, 7, 4003);
        takes(3, 1, 6, 100, 13, 4000);
        takes(3, 2, 6, 100, 1, 7);
        takes(3, 2, 6, 100, 8, 5);
    }

    private static void wrongArgumentsAreRefused() {
        refuses(-1, 0, 4, 64, 2, 4);
        refuses(8, 0, 4, 64, 2, 4);
        refuses(Integer.MIN_VALUE, 0, 4, 64, 2, 4);
        refuses(Integer.MAX_VALUE, 0, 4, 64, 2, 4);
        refuses(0, -1, 4, 64, 2, 4);
        refuses(0, 4, 4, 64, 2, 4);
        refuses(0, 33, 4, 64, 1, 4);
        refuses(0, 0, 3, 64, 2, 4);
        refuses(0, 0, 10, 64, 2, 4);
        refuses(0, 0, 36, 64, 2, 4);
        refuses(0, 0, 4, 63, 2, 4);
        refuses(0, 0, 4, 129, 2, 4);
        refuses(0, 0, 4, 64, 0, 4);
        refuses(0, 0, 4, 64, 16, 4);
        refuses(0, 0, 4, 64, 18, 4);
        refuses(0, 0, 4, 64, -2, 4);
        refuses(0, 0, 4, 64, 1, 4);
        refuses(0, 2, 4, 64, 15, 4);
        refuses(0, 3, 4, 64, 8, 4);
        refuses(0, 0, 4, 64, 2, 0);
        refuses(0, 0, 4, 64, 2, 3);
        refuses(0, 0, 4, 64, 2, 4004);
        refuses(0, 0, 4, 64, 2, -1);
        refuses(0, 0, 4, 64, 2, Integer.MIN_VALUE + 4);
    }

    private static void aLinkIsSetUpOnce() {
        TwinNetwork x = new TwinNetwork();
        x.link(2, 0, 4, 64, 2, 4);
        DUE.refusesState("link(2) again", () -> x.link(2, 0, 4, 64, 2, 4));
        DUE.refusesState("link(2) again with something else", () -> x.link(2, 1, 5, 80, 1, 8));
        DUE.refusesArgument("link(2) again and wrong", () -> x.link(2, 0, 4, 64, 1, 4));
        DUE.is("account(0, 2)", x.account(0, 2), 64 * 80);
        DUE.passes("link(3)", () -> x.link(3, 0, 4, 64, 2, 4));
    }

    private static void whatIsToldIsUsed() {
        TwinNetwork x = new TwinNetwork();
        x.link(1, 2, 5, 96, 8 + 1, 4 * 7 + 2 + 1);
        DUE.is("account(1, 1)", x.account(1, 1), 96 * (32 + 64));
        DUE.is("port(0, 1)", x.port(0, 1), 0);
        DUE.is("port(1, 1)", x.port(1, 1), -1);
        DUE.is("port(2, 1)", x.port(2, 1), -1);
        DUE.is("port(3, 1)", x.port(3, 1), 0);
        x.link(4, 2, 5, 96, 8 + 1, 4 * 7);
        DUE.is("port(0, 4) of a sampling link", x.port(0, 4), -1);
        x.write(1, 1, 0);
        x.tick(1);
        DUE.is("onLine(0, 2, -1)", x.onLine(0, 2, -1), 64);
        DUE.is("onLine(0, 2, 10)", x.onLine(0, 2, 10), 2);
    }
}
