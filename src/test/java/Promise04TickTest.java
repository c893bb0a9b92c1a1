/** Promise 4, and what the Terms say of a TICK: ticks pass, and frames move by them. */
public final class Promise04TickTest {
    private static final Due DUE = new Due("promise 4");

    public static void main(String[] args) {
        ticksAreFrom0To2000();
        aTickOfNoneChangesNothing();
        aLinkIsOpenAtFirst();
        aLinkIsOpenAgainAfterItsGap();
        aGapIsKeptWithoutRoom();
        aFrameWithoutRoomHasItsNumber();
        linksGoByNumber();
        sequenceNumbersGoRound();
        framesGoIntoBothNetworks();
        aFrameGoesEightBytesATick();
        aFrameArrivesAtOnce();
        linesGoByNumber();
        networkZeroGoesFirst();
        anEmptyLineTakesTheFirst();
        highFramesGoFirst();
        manyTicksAreAsManyTimesOne();
        DUE.end();
    }

    private static void ticksAreFrom0To2000() {
        DUE.sentence("So many ticks, 0 .. 2000 (none if less or more): the time.");
        TwinNetwork x = new TwinNetwork();
        DUE.is("tick(0)", x.tick(0), 0);
        DUE.is("tick(1)", x.tick(1), 1);
        DUE.is("tick(-1)", x.tick(-1), 1);
        DUE.is("tick(1999)", x.tick(1999), 2000);
        DUE.is("tick(2000)", x.tick(2000), 4000);
        DUE.is("tick(2001)", x.tick(2001), 4000);
        DUE.is("tick(least)", x.tick(Integer.MIN_VALUE), 4000);
        DUE.is("tick(greatest)", x.tick(Integer.MAX_VALUE), 4000);
        DUE.is("tick(7)", x.tick(7), 4007);
        DUE.sentence("(4) The time is t + 1.");
        TwinNetwork busy = Made.fromZeroToThree(20, Made.QUEUING);
        busy.write(0, 100, 1);
        for (int time = 1; time < 100; time++) {
            DUE.is("tick(1)", busy.tick(1), time);
        }
    }

    private static void aTickOfNoneChangesNothing() {
        DUE.sentence("none if less or more");
        TwinNetwork x = Made.fromZeroToThree(20, Made.QUEUING);
        x.write(0, 184, 1);
        x.tick(9);
        for (int n : new int[] {0, -1, 2001, Integer.MIN_VALUE, Integer.MAX_VALUE}) {
            DUE.is("tick(" + n + ")", x.tick(n), 9);
            DUE.is("fragments(0)", x.fragments(0), 7);
            DUE.is("account(0, 0)", x.account(0, 0), 5120 - 1024 + 64);
            DUE.is("onLine(0, 7, -1)", x.onLine(0, 7, -1), 64);
        }
        x.tick(8);
        DUE.is("dropped(9)", x.dropped(9), 1);
    }

    private static void aLinkIsOpenAtFirst() {
        DUE.sentence("Each link, by number, with a fragment waiting, and t not before it is OPEN (at first 0)");
        for (int start : new int[] {0, 1, 2000}) {
            TwinNetwork x = new TwinNetwork();
            x.tick(start);
            x.link(0, 0, 9, 64, 8, 6);
            x.tick(start);
            x.write(0, 1, 1);
            x.tick(1);
            DUE.is("fragments(0) a tick after " + 2 * start, x.fragments(0), 0);
            DUE.is("onLine(0, 0, -1) a tick after " + 2 * start, x.onLine(0, 0, -1), 64);
        }
    }

    private static void aLinkIsOpenAgainAfterItsGap() {
        DUE.sentence("it is OPEN again at t + GAP");
        for (int power = 4; power <= 9; power++) {
            int gap = 1 << power;
            TwinNetwork x = Made.withLink(0, 0, power, 64, 2, 6);
            x.tick(10);
            x.write(0, 64, 1);
            x.tick(1);
            DUE.is("fragments(0) after the first one with GAP " + gap, x.fragments(0), 2);
            x.tick(gap - 1);
            DUE.is("fragments(0) at t + GAP with GAP " + gap, x.fragments(0), 2);
            x.tick(1);
            DUE.is("fragments(0) after the tick at t + GAP with GAP " + gap, x.fragments(0), 1);
            x.tick(gap);
            DUE.is("fragments(0) after twice the GAP with GAP " + gap, x.fragments(0), 0);
            x.tick(5);
            x.write(0, 1, 1);
            x.tick(gap - 6);
            DUE.is("fragments(0) of a message written in the GAP " + gap, x.fragments(0), 1);
            x.tick(1);
            DUE.is("fragments(0) of a message written in the GAP " + gap + ", later", x.fragments(0), 0);
            x.tick(gap + 5);
            x.write(0, 1, 1);
            x.tick(1);
            DUE.is("fragments(0) of a message written after the GAP " + gap, x.fragments(0), 0);
        }
    }

    /** All rooms of line 0 are taken: the fragment is gone all the same, and the link waits for its GAP. */
    private static void aGapIsKeptWithoutRoom() {
        DUE.sentence("it is OPEN again at t + GAP");
        for (int networks = 1; networks <= 2; networks++) {
            TwinNetwork x = Made.withLink(0, 0, 5, 64, 8, 4);
            for (int i = 0; i < 16; i++) {
                x.babble(0, 0, 1, 64, i);
                x.babble(networks - 1, 0, 1, 64, i);
            }
            int babblesWithoutRoom = networks == 1 ? 16 : 0;
            x.write(0, 1, 1);
            x.write(0, 1, 2);
            x.tick(1);
            DUE.drops("without room in " + networks, x, 6, babblesWithoutRoom + networks);
            DUE.is("onLine(1, 0, 5)", x.onLine(1, 0, 5), networks == 1 ? 0 : 1);
            DUE.is("fragments(0) at 1", x.fragments(0), 1);
            x.tick(31);
            DUE.is("fragments(0) at 32", x.fragments(0), 1);
            x.tick(1);
            DUE.is("fragments(0) at 33", x.fragments(0), 0);
            DUE.is("dropped(6) at 33", x.dropped(6), babblesWithoutRoom + networks);
        }
    }

    /** Frame 0 has no room in network 0: in network 1 it is followed by 1. */
    private static void aFrameWithoutRoomHasItsNumber() {
        DUE.sentence("a frame for which there is no room is DROPPED");
        TwinNetwork x = Made.fromZeroToThree(1, 0);
        for (int i = 0; i < 16; i++) {
            x.babble(0, 0, 1, 64, 100 + i);
        }
        x.write(0, 1, 1);
        x.write(0, 1, 2);
        x.tick(1);
        DUE.is("the first sequence number in network 1", x.onLine(1, 0, 59), 0);
        x.tick(16);
        DUE.is("the next sequence number in network 1", x.onLine(1, 0, 59), 1);
        x.tick(16 * 8 - 16);
        DUE.is("the first sequence number in network 0", x.onLine(0, 0, 59), 1);
        DUE.is("its link", x.onLine(0, 0, 5), 0);
    }

    private static void linksGoByNumber() {
        DUE.sentence("Each link, by number, with a fragment waiting");
        TwinNetwork x = new TwinNetwork();
        for (int l = 7; l >= 0; l--) {
            x.link(l, 0, 4, 64, 8, 4 + l % 2);
            x.write(l, 1, 1);
        }
        x.tick(1);
        for (int l = 0; l < 8; l++) {
            for (int network = 0; network < 2; network++) {
                DUE.is("onLine(" + network + ", 0, 5) of frame " + l, x.onLine(network, 0, 5), l);
                DUE.is("waiting(" + network + ", 0, 0) with frame " + l, x.waiting(network, 0, 0), 7 - l);
            }
            x.tick(8);
        }
    }

    /** Frames 0, 1 .. 255 and then 1 again: 264 of them, eight a message. */
    private static void sequenceNumbersGoRound() {
        DUE.sentence("the next SEQUENCE number (0, then 1 .. 255 and 1 again)");
        TwinNetwork x = Made.fromZeroToThree(1, Made.QUEUING);
        int frames = 0;
        for (int message = 0; message < 33; message++) {
            x.write(0, 184, message);
            for (int i = 0; i < 8; i++) {
                x.tick(1);
                if (message == 0 || message > 30) {
                    int want = frames == 0 ? 0 : frames <= 255 ? frames : frames - 255;
                    DUE.is("the sequence number of frame " + frames, x.onLine(1, 0, 59), want);
                }
                x.tick(15);
                frames++;
            }
        }
        x.tick(20);
        DUE.drops("when the numbers went round", x, 9, 264, 11, 33 - 4);
    }

    private static void framesGoIntoBothNetworks() {
        DUE.sentence("which is put into the rows of its source's lines 0 .. 3 of both networks");
        for (int source = 0; source < 4; source++) {
            TwinNetwork x = Made.withLink(5, source, 4, 64, 15 - (1 << source), 4);
            x.write(5, 1, 1);
            x.tick(1);
            for (int line = 0; line < 12; line++) {
                for (int network = 0; network < 2; network++) {
                    DUE.is("onLine(" + network + ", " + line + ", 5) from " + source,
                            x.onLine(network, line, 5), line == source ? 5 : -1);
                }
            }
        }
    }

    /** A frame is taken in the tick at 0; in the one at 8 it has gone 64 bytes. */
    private static void aFrameGoesEightBytesATick() {
        DUE.sentence("if a frame is on it, 8 bytes more have gone; if all have, it ARRIVES");
        int[][] ticks = {{64, 8}, {65, 9}, {71, 9}, {72, 9}, {73, 10}, {127, 16}, {128, 16}, {129, 17}, {199, 25},
            {200, 25}};
        for (int[] a : ticks) {
            TwinNetwork x = new TwinNetwork();
            x.babble(0, 0, 0, a[0], 0);
            x.tick(a[1]);
            DUE.is("onLine(0, 0, -1) before " + a[0] + " bytes have gone", x.onLine(0, 0, -1), a[0]);
            DUE.drops("before " + a[0] + " bytes have gone", x);
            x.tick(1);
            DUE.is("onLine(0, 0, -1) when " + a[0] + " bytes have gone", x.onLine(0, 0, -1), -1);
            DUE.drops("when " + a[0] + " bytes have gone", x, 2, 1);
        }
    }

    /** In the tick in which a frame arrives, both its line and the next one take a frame. */
    private static void aFrameArrivesAtOnce() {
        DUE.sentence("it ARRIVES, at once");
        TwinNetwork x = Made.withLink(0, 0, 4, 80, 8, 4);
        x.babble(0, 0, 0, 65, 0);
        x.babble(0, 0, 0, 64, 1);
        x.tick(9);
        DUE.is("onLine(0, 0, -1) before it arrives", x.onLine(0, 0, -1), 65);
        DUE.is("onLine(0, 7, -1) before it arrives", x.onLine(0, 7, -1), -1);
        x.tick(1);
        DUE.is("onLine(0, 0, -1) when it arrived", x.onLine(0, 0, -1), 64);
        DUE.is("onLine(0, 7, -1) when it arrived", x.onLine(0, 7, -1), 65);
        x.tick(8);
        DUE.is("onLine(0, 0, -1) when both have", x.onLine(0, 0, -1), -1);
        DUE.is("waiting(0, 7, 0) when both have", x.waiting(0, 7, 0), 1);
        x.tick(1);
        DUE.is("onLine(0, 7, -1) of the second one", x.onLine(0, 7, -1), 64);
    }

    /** Frames of end systems 3 and 0 arrive in the same tick: that of line 0 is first in the row of line 8. */
    private static void linesGoByNumber() {
        DUE.sentence("Each line by number, network 0 first");
        TwinNetwork x = Made.withLink(0, 3, 4, 64, 2, 4);
        x.link(1, 0, 4, 64, 2, 4);
        x.write(0, 1, 1);
        x.write(1, 1, 1);
        x.tick(9);
        DUE.is("onLine(0, 8, 5) at 9", x.onLine(0, 8, 5), 1);
        DUE.is("waiting(0, 8, 0) at 9", x.waiting(0, 8, 0), 1);
        x.tick(8);
        DUE.is("onLine(0, 8, 5) at 17", x.onLine(0, 8, 5), 0);
    }

    /**
     * A message's frame 0 comes by one network in the same tick as a babbled one with number 0 by the other:
     * that of network 0 is taken. (The message's other frame is behind the babbled one, and comes too late.)
     */
    private static void networkZeroGoesFirst() {
        DUE.sentence("Each line by number, network 0 first");
        for (int network = 0; network < 2; network++) {
            TwinNetwork x = Made.fromZeroToThree(20, Made.QUEUING);
            x.babble(1 - network, 0, 0, 64, 0);
            x.write(0, 1, 1);
            x.tick(25);
            DUE.is("port(3, 0) with the message in network " + network, x.port(3, 0), network == 0 ? 1 : 0);
            DUE.drops("with the message in network " + network, x, 9, 2, 10, network);
        }
    }

    private static void anEmptyLineTakesTheFirst() {
        DUE.sentence("if no frame is on it, takes the first one of its rows");
        TwinNetwork x = new TwinNetwork();
        x.tick(3);
        DUE.is("onLine(0, 2, -1) with empty rows", x.onLine(0, 2, -1), -1);
        for (int n = 1; n <= 3; n++) {
            x.babble(0, 2, 0, 64, n);
        }
        x.tick(1);
        for (int n = 1; n <= 3; n++) {
            DUE.is("onLine(0, 2, 59)", x.onLine(0, 2, 59), n);
            DUE.is("waiting(0, 2, 0)", x.waiting(0, 2, 0), 3 - n);
            x.tick(7);
            DUE.is("onLine(0, 2, 59) as long as it is on the line", x.onLine(0, 2, 59), n);
            x.tick(1);
        }
        DUE.is("onLine(0, 2, -1) with empty rows again", x.onLine(0, 2, -1), -1);
    }

    /** While link 0's frame is on line 4, link 1's comes (in tick 24), and then link 2's, which is HIGH. */
    private static void highFramesGoFirst() {
        DUE.sentence("takes the first one of its rows, of the HIGH row first");
        TwinNetwork x = Made.withLink(0, 3, 4, 128, 1, 4);
        x.link(1, 3, 4, 128, 1, 4);
        x.link(2, 1, 4, 128, 1, 5);
        x.write(0, 81, 1);
        x.write(1, 1, 1);
        x.tick(10);
        x.write(2, 1, 1);
        x.tick(15);
        DUE.is("onLine(0, 4, 5) at 25", x.onLine(0, 4, 5), 0);
        DUE.is("waiting(0, 4, 0) at 25", x.waiting(0, 4, 0), 1);
        x.tick(2);
        DUE.is("waiting(0, 4, 1) at 27", x.waiting(0, 4, 1), 1);
        x.tick(5);
        DUE.is("onLine(0, 4, 5) at 32", x.onLine(0, 4, 5), 0);
        x.tick(1);
        DUE.is("onLine(0, 4, 5) at 33", x.onLine(0, 4, 5), 2);
        x.tick(8);
        DUE.is("onLine(0, 4, 5) at 41", x.onLine(0, 4, 5), 1);
    }

    private static void manyTicksAreAsManyTimesOne() {
        DUE.sentence("So many ticks");
        TwinNetwork one = new TwinNetwork();
        TwinNetwork many = new TwinNetwork();
        for (TwinNetwork x : new TwinNetwork[] {one, many}) {
            x.link(0, 0, 9, 64, 6, 6);
            x.link(1, 2, 7, 100, 3, 5);
            x.write(0, 100, 1);
            x.write(1, 20, 1);
        }
        for (int i = 0; i < 300; i++) {
            one.tick(1);
        }
        one.tick(1000);
        one.tick(700);
        many.tick(2000);
        for (int l = 0; l < 2; l++) {
            DUE.is("account(0, " + l + ")", many.account(0, l), one.account(0, l));
            DUE.is("port(1, " + l + ")", many.port(1, l), one.port(1, l));
            DUE.is("fragments(" + l + ")", many.fragments(l), one.fragments(l));
        }
    }
}
