/** Promise 4: ticks pass, and frames move by them. */
public final class Promise04TickTest {
    private static final Due DUE = new Due("promise 4");

    public static void main(String[] args) {
        theTimeIsCounted();
        aFrameGoesEightBytesATick();
        aLinkIsOpenOnceAGap();
        linksGoByNumber();
        highFramesGoFirst();
        sequenceNumbersGoRound();
        frameGoesToAllTargets();
        eachSystemReachesEachOther();
        manyTicksAreAsManyTimesOne();
        DUE.end();
    }

    private static void theTimeIsCounted() {
        TwinNetwork x = new TwinNetwork();
        DUE.is("tick(1)", x.tick(1), 1);
        DUE.is("tick(0)", x.tick(0), 1);
        DUE.is("tick(-1)", x.tick(-1), 1);
        DUE.is("tick(2000)", x.tick(2000), 2001);
        DUE.is("tick(2001)", x.tick(2001), 2001);
        DUE.is("tick(least)", x.tick(Integer.MIN_VALUE), 2001);
        DUE.is("tick(greatest)", x.tick(Integer.MAX_VALUE), 2001);
        x.link(0, 0, 4, 64, 2, 4);
        x.write(0, 1, 1);
        DUE.is("tick(2001)", x.tick(2001), 2001);
        DUE.is("fragments(0)", x.fragments(0), 1);
        DUE.is("tick(7)", x.tick(7), 2008);
    }

    /** 65 bytes take nine ticks, 64 take eight; the line takes the next one in the tick of the arrival. */
    private static void aFrameGoesEightBytesATick() {
        TwinNetwork x = new TwinNetwork();
        x.link(0, 0, 4, 80, 8, 4);
        x.babble(0, 0, 0, 65, 0);
        x.babble(0, 0, 0, 64, 1);
        x.tick(1);
        DUE.is("waiting(0, 0, 0)", x.waiting(0, 0, 0), 1);
        x.tick(8);
        DUE.is("onLine(0, 0, -1) before it arrives", x.onLine(0, 0, -1), 65);
        DUE.is("onLine(0, 7, -1) before it arrives", x.onLine(0, 7, -1), -1);
        x.tick(1);
        DUE.is("onLine(0, 0, -1) when it arrived", x.onLine(0, 0, -1), 64);
        DUE.is("onLine(0, 7, -1) when it arrived", x.onLine(0, 7, -1), 65);
        x.tick(7);
        DUE.is("onLine(0, 0, -1) later", x.onLine(0, 0, -1), 64);
        x.tick(1);
        DUE.is("onLine(0, 0, -1) at last", x.onLine(0, 0, -1), -1);
        DUE.is("waiting(0, 7, 0)", x.waiting(0, 7, 0), 1);
        x.tick(1);
        DUE.is("onLine(0, 7, -1) of the second one", x.onLine(0, 7, -1), 64);
    }

    private static void aLinkIsOpenOnceAGap() {
        TwinNetwork x = new TwinNetwork();
        x.link(0, 0, 5, 64, 2, 6);
        x.tick(10);
        x.write(0, 64, 1);
        x.tick(1);
        DUE.is("fragments(0) at 11", x.fragments(0), 2);
        x.tick(31);
        DUE.is("fragments(0) at 42", x.fragments(0), 2);
        x.tick(1);
        DUE.is("fragments(0) at 43", x.fragments(0), 1);
        x.tick(32);
        DUE.is("fragments(0) at 75", x.fragments(0), 0);
        x.tick(5);
        x.write(0, 1, 1);
        x.tick(26);
        DUE.is("fragments(0) at 106", x.fragments(0), 1);
        x.tick(1);
        DUE.is("fragments(0) at 107", x.fragments(0), 0);
    }

    private static void linksGoByNumber() {
        TwinNetwork x = new TwinNetwork();
        x.link(6, 0, 4, 64, 2, 5);
        x.link(3, 0, 4, 64, 2, 4);
        x.write(6, 1, 1);
        x.write(3, 1, 1);
        x.tick(1);
        for (int network = 0; network < 2; network++) {
            DUE.is("onLine(" + network + ", 0, 5)", x.onLine(network, 0, 5), 3);
            DUE.is("waiting(" + network + ", 0, 0)", x.waiting(network, 0, 0), 1);
        }
        x.tick(8);
        DUE.is("onLine(0, 0, 5)", x.onLine(0, 0, 5), 6);
    }

    /** While link 0's frame is on line 4, link 1's comes (in tick 24), and then link 2's, which is HIGH. */
    private static void highFramesGoFirst() {
        TwinNetwork x = new TwinNetwork();
        x.link(0, 3, 4, 128, 1, 4);
        x.link(1, 3, 4, 128, 1, 4);
        x.link(2, 1, 4, 128, 1, 5);
        x.write(0, 81, 1);
        x.write(1, 1, 1);
        x.tick(10);
        x.write(2, 1, 1);
        x.tick(15);
        DUE.is("onLine(0, 4, 5) at 25", x.onLine(0, 4, 5), 0);
        DUE.is("waiting(0, 4, 0) at 25", x.waiting(0, 4, 0), 1);
        x.tick(2);
        DUE.is("waiting(0, 4, 1) at 27", x.waiting(0, 4, 1), 1);
        x.tick(5);
        DUE.is("onLine(0, 4, 5) at 32", x.onLine(0, 4, 5), 0);
        x.tick(1);
        DUE.is("onLine(0, 4, 5) at 33", x.onLine(0, 4, 5), 2);
        x.tick(8);
        DUE.is("onLine(0, 4, 5) at 41", x.onLine(0, 4, 5), 1);
    }

    /** Frames 0, 1 .. 255 and then 1 again: 264 of them, eight a message. */
    private static void sequenceNumbersGoRound() {
        TwinNetwork x = new TwinNetwork();
        x.link(0, 0, 4, 64, 8, 6);
        int frames = 0;
        for (int message = 0; message < 33; message++) {
            x.write(0, 184, message);
            for (int i = 0; i < 8; i++) {
                x.tick(1);
                if (message == 0 || message > 30) {
                    int want = frames == 0 ? 0 : frames <= 255 ? frames : frames - 255;
                    DUE.is("the sequence number of frame " + frames, x.onLine(1, 0, 59), want);
                }
                x.tick(15);
                frames++;
            }
        }
        x.tick(20);
        DUE.is("dropped(8)", x.dropped(8), 0);
        DUE.is("dropped(10)", x.dropped(10), 0);
        DUE.is("port(3, 0)", x.port(3, 0), 4);
        DUE.is("dropped(11)", x.dropped(11), 33 - 4);
    }

    /** From end system 1 to all others: by line 10 to switch 0 and from there to 0 and 3, by line 9 to 2. */
    private static void frameGoesToAllTargets() {
        TwinNetwork x = new TwinNetwork();
        x.link(0, 1, 4, 64, 13, 4);
        x.write(0, 1, 1);
        x.tick(9);
        for (int line = 0; line < 12; line++) {
            DUE.is("onLine(1, " + line + ", -1) at 9", x.onLine(1, line, -1), line == 9 || line == 10 ? 64 : -1);
        }
        x.tick(8);
        for (int line = 0; line < 12; line++) {
            boolean isThere = line == 4 || line == 6 || line == 7;
            DUE.is("onLine(1, " + line + ", -1) at 17", x.onLine(1, line, -1), isThere ? 64 : -1);
        }
        x.tick(8);
        for (int e = 0; e < 4; e++) {
            DUE.is("port(" + e + ", 0) at 25", x.port(e, 0), e == 1 ? -1 : 1);
        }
        DUE.is("dropped(9)", x.dropped(9), 3);
    }

    /** A frame of 64 bytes arrives eight ticks later for each line of its path. */
    private static void eachSystemReachesEachOther() {
        int[][] lines = {{0, 3, 4, 2}, {3, 0, 3, 3}, {4, 3, 0, 4}, {2, 3, 4, 0}};
        for (int source = 0; source < 4; source++) {
            for (int e = 0; e < 4; e++) {
                if (e != source) {
                    TwinNetwork x = new TwinNetwork();
                    x.link(0, source, 4, 64, 1 << e, 4);
                    x.write(0, 1, 1);
                    x.tick(8 * lines[source][e]);
                    DUE.is("port(" + e + ", 0) from " + source + " too early", x.port(e, 0), -1);
                    x.tick(1);
                    DUE.is("port(" + e + ", 0) from " + source, x.port(e, 0), 1);
                }
            }
        }
    }

    private static void manyTicksAreAsManyTimesOne() {
        TwinNetwork one = new TwinNetwork();
        TwinNetwork many = new TwinNetwork();
        for (TwinNetwork x : new TwinNetwork[] {one, many}) {
            x.link(0, 0, 9, 64, 6, 6);
            x.link(1, 2, 7, 100, 3, 5);
            x.write(0, 100, 1);
            x.write(1, 20, 1);
        }
        for (int i = 0; i < 300; i++) {
            one.tick(1);
        }
        one.tick(1000);
        one.tick(700);
        many.tick(2000);
        for (int l = 0; l < 2; l++) {
            DUE.is("account(0, " + l + ")", many.account(0, l), one.account(0, l));
            DUE.is("port(1, " + l + ")", many.port(1, l), one.port(1, l));
            DUE.is("fragments(" + l + ")", many.fragments(l), one.fragments(l));
        }
    }
}
