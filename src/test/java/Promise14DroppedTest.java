/** Promise 14: how many frames were dropped, for each reason. (The reasons themselves: the tests of the Terms.) */
public final class Promise14DroppedTest {
    private static final Due DUE = new Due("promise 14");

    public static void main(String[] args) {
        reasonsAreFrom0To11();
        lostFramesAreCounted();
        noRoomBeforeLinesOfSystemsIsCounted();
        bothNetworksAreCounted();
        countsGoOn();
        DUE.end();
    }

    private static void reasonsAreFrom0To11() {
        DUE.sentence("How many frames were DROPPED for a reason (1 .. 11; 6: no room in a row, also of lines 0 .. 3; "
                + "0 lost by harm). NONE for another one.");
        TwinNetwork x = new TwinNetwork();
        for (int reason = 0; reason < 12; reason++) {
            DUE.is("dropped(" + reason + ")", x.dropped(reason), 0);
        }
        for (int reason : new int[] {-1, 12, 13, 32, Integer.MIN_VALUE, Integer.MAX_VALUE}) {
            DUE.is("dropped(" + reason + ")", x.dropped(reason), -1);
        }
    }

    private static void lostFramesAreCounted() {
        DUE.sentence("0 lost by harm");
        TwinNetwork x = Made.fromZeroToThree(20, Made.QUEUING);
        x.write(0, 1, 1);
        x.harm(0, 0, 0, 0);
        x.harm(1, 7, 0, 0);
        x.tick(1);
        DUE.drops("with a frame lost before line 0", x, 0, 1);
        x.tick(29);
        DUE.drops("with another lost before line 7", x, 0, 2);
        DUE.is("port(3, 0)", x.port(3, 0), 0);
    }

    private static void noRoomBeforeLinesOfSystemsIsCounted() {
        DUE.sentence("6: no room in a row, also of lines 0 .. 3");
        for (int e = 0; e < 4; e++) {
            TwinNetwork x = Made.withLink(0, e, 4, 64, 15 - (1 << e), 6);
            for (int n = 0; n < 18; n++) {
                x.babble(0, e, 7, 64, n);
                x.babble(1, e, 7, 64, n);
            }
            DUE.drops("with two babbled frames too many in each network", x, 6, 4);
            x.write(0, 1, 1);
            x.tick(1);
            DUE.drops("with a link's frame too many in each network", x, 6, 6);
        }
    }

    private static void bothNetworksAreCounted() {
        DUE.sentence("How many frames were DROPPED for a reason");
        TwinNetwork x = new TwinNetwork();
        x.babble(0, 0, 0, 64, 0);
        x.babble(1, 0, 0, 64, 0);
        x.babble(1, 3, 0, 64, 0);
        x.tick(9);
        DUE.drops("with frames of no link in both networks", x, 2, 3);
    }

    private static void countsGoOn() {
        DUE.sentence("How many frames were DROPPED for a reason");
        TwinNetwork x = new TwinNetwork();
        for (int n = 1; n <= 40; n++) {
            x.babble(0, 0, 0, 64, n);
            x.tick(9);
            DUE.is("dropped(2) after " + n, x.dropped(2), n);
        }
    }
}
