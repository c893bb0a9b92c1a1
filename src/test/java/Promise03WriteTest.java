/** Promise 3, and what the Terms say of MESSAGES: a message is cut into fragments, which wait. */
public final class Promise03WriteTest {
    private static final int SAMPLING = 4;
    private static final int QUEUING = 6;
    private static final Due DUE = new Due("promise 3");

    public static void main(String[] args) {
        theFragmentsWait();
        messagesHave1To400Bytes();
        bytesAreTheLowestEightBits();
        aDatagramTellsItsLength();
        fragmentsAreAMultipleOfEight();
        samplingMessagesAreOneFragment();
        queuingMessagesAreAtMostEight();
        theLastFragmentIsWhatIsLeft();
        aLinkMustBeSetUp();
        onlyEightFragmentsWait();
        messagesAreNumberedByTheirLink();
        messageNumbersHaveTwoBytes();
        messageNumbersGoRound();
        DUE.end();
    }

    private static void needs(int most, int flags, int size, int fragments) {
        TwinNetwork x = Made.withLink(0, 0, 4, most, 2, flags);
        DUE.answers("write(0, " + size + ", 1) with MOST " + most, fragments, () -> x.write(0, size, 1));
        DUE.is("fragments(0)", x.fragments(0), fragments);
    }

    private static void doesNotFit(int most, int flags, int size) {
        TwinNetwork x = Made.withLink(0, 0, 4, most, 2, flags);
        DUE.refusesArgument("write(0, " + size + ", 1) with MOST " + most, () -> x.write(0, size, 1));
        DUE.is("fragments(0)", x.fragments(0), 0);
    }

    private static void theFragmentsWait() {
        DUE.sentence("A message is written to a link: how many fragments it has, which wait now.");
        TwinNetwork x = Made.withLink(0, 0, 4, 64, 2, QUEUING);
        int[][] messages = {{1, 1, 1}, {17, 2, 3}, {64, 3, 6}, {40, 2, 8}};
        for (int[] a : messages) {
            DUE.answers("write(0, " + a[0] + ", 1)", a[1], () -> x.write(0, a[0], 1));
            DUE.is("fragments(0)", x.fragments(0), a[2]);
            DUE.is("waiting(0, 0, 0) before a tick", x.waiting(0, 0, 0), 0);
        }
    }

    private static void messagesHave1To400Bytes() {
        DUE.sentence("A MESSAGE is a number of bytes, 1 .. 400");
        for (int flags : new int[] {SAMPLING, QUEUING}) {
            needs(128, flags, 1, 1);
            for (int size : new int[] {0, -1, -8, 401, 65536, Integer.MIN_VALUE, Integer.MAX_VALUE}) {
                doesNotFit(128, flags, size);
            }
        }
        needs(128, QUEUING, 399, 5);
        needs(128, QUEUING, 400, 5);
    }

    /** As on the line: the first frame has bytes 0 .. 79 of the message behind its head. */
    private static void bytesAreTheLowestEightBits() {
        DUE.sentence("byte i is the lowest eight bits of seed + 37 i + i i / 8");
        for (int seed : new int[] {0, 255, 256, -1, -3, Integer.MAX_VALUE, Integer.MIN_VALUE}) {
            TwinNetwork x = Made.withLink(0, 0, 4, 128, 8, QUEUING);
            x.write(0, 400, seed);
            x.tick(1);
            for (int i = 0; i < 80; i++) {
                int due = (int) (seed + 37L * i + i * i / 8 & 255);
                DUE.is("byte " + i + " of seed " + seed, x.onLine(0, 0, 42 + i), due);
            }
        }
    }

    /** 255 bytes, 256 and the greatest: 408. */
    private static void aDatagramTellsItsLength() {
        DUE.sentence("Its DATAGRAM: 3, 232 + l of link l (2 bytes of 1000 + l), 7, 208 + l (2000 + l), how many bytes "
                + "the datagram has (2), 0, 0, and the message (numbers of 2 bytes: the upper one first)");
        int[][] sizes = {{1, 0, 9}, {247, 0, 255}, {248, 1, 0}, {249, 1, 1}, {400, 1, 152}};
        for (int[] a : sizes) {
            TwinNetwork x = Made.withLink(7, 0, 4, 128, 8, QUEUING);
            x.write(7, a[0], 200);
            x.tick(1);
            int[] head = {3, 239, 7, 215, a[1], a[2], 0, 0, 200};
            for (int i = 0; i < head.length; i++) {
                DUE.is("byte " + i + " of a datagram of " + a[0], x.onLine(0, 0, 34 + i), head[i]);
            }
        }
    }

    /** Two datagrams for each MOST: the greatest that is one fragment, and one byte more. */
    private static void fragmentsAreAMultipleOfEight() {
        DUE.sentence("Let p be MOST less 39, and P the greatest multiple of 8 not above p.");
        int[][] fragments = {{64, 24}, {70, 24}, {71, 32}, {72, 32}, {78, 32}, {79, 40}, {126, 80}, {127, 88},
            {128, 88}};
        for (int[] a : fragments) {
            needs(a[0], QUEUING, a[1] - 8, 1);
            needs(a[0], QUEUING, a[1] - 7, 2);
        }
    }

    private static void samplingMessagesAreOneFragment() {
        DUE.sentence("SAMPLING: the datagram must have at most p bytes: it is one FRAGMENT.");
        int[][] greatest = {{64, 17}, {65, 18}, {70, 23}, {71, 24}, {72, 25}, {127, 80}, {128, 81}};
        for (int[] a : greatest) {
            needs(a[0], SAMPLING, a[1], 1);
            doesNotFit(a[0], SAMPLING, a[1] + 1);
        }
        doesNotFit(128, SAMPLING, 400);
    }

    private static void queuingMessagesAreAtMostEight() {
        DUE.sentence("QUEUING: fragments have P bytes, the last one what is left; at most eight.");
        needs(64, QUEUING, 160, 7);
        needs(64, QUEUING, 161, 8);
        needs(64, QUEUING, 184, 8);
        doesNotFit(64, QUEUING, 185);
        needs(70, QUEUING, 184, 8);
        doesNotFit(70, QUEUING, 185);
        needs(71, QUEUING, 248, 8);
        doesNotFit(71, QUEUING, 249);
        doesNotFit(94, QUEUING, 400);
        needs(95, QUEUING, 400, 8);
    }

    /** Datagrams of 48 and 49 bytes over fragments of 24: 24 and 24; 24, 24 and 1. */
    private static void theLastFragmentIsWhatIsLeft() {
        DUE.sentence("fragments have P bytes, the last one what is left");
        int[][] lengths = {{40, 24, 24}, {41, 24, 24, 1}, {39, 24, 23}, {16, 24}, {17, 24, 1}};
        for (int[] a : lengths) {
            TwinNetwork x = Made.withLink(0, 0, 4, 64, 8, QUEUING);
            x.write(0, a[0], 1);
            x.tick(1);
            for (int i = 1; i < a.length; i++) {
                String call = "fragment " + i + " of a message of " + a[0] + ": ";
                DUE.is(call + "the length", x.onLine(0, 0, 17), 20 + a[i]);
                DUE.is(call + "more follow", x.onLine(0, 0, 20), i + 1 < a.length ? 32 : 0);
                DUE.is(call + "the place", x.onLine(0, 0, 21), 3 * (i - 1));
                x.tick(16);
            }
            DUE.is("the line after a message of " + a[0], x.onLine(0, 0, -1), -1);
        }
    }

    private static void aLinkMustBeSetUp() {
        DUE.sentence("IllegalArgumentException: there is no such link set up, or the message doesn't fit it.");
        TwinNetwork x = Made.withLink(3, 0, 4, 64, 2, QUEUING);
        for (int l : new int[] {-1, 8, 0, 2, 4, 7, Integer.MIN_VALUE, Integer.MAX_VALUE}) {
            DUE.refusesArgument("write(" + l + ", 1, 1)", () -> x.write(l, 1, 1));
        }
        DUE.is("fragments(3) after refused messages", x.fragments(3), 0);
        DUE.answers("write(3, 1, 1)", 1, () -> x.write(3, 1, 1));
    }

    private static void onlyEightFragmentsWait() {
        DUE.sentence("IllegalStateException: more than eight fragments would wait.");
        TwinNetwork x = Made.withLink(0, 0, 4, 64, 2, QUEUING);
        x.link(1, 0, 4, 64, 2, SAMPLING);
        DUE.answers("write(0, 136, 1)", 6, () -> x.write(0, 136, 1));
        DUE.refusesState("write(0, 41, 1), of three fragments", () -> x.write(0, 41, 1));
        DUE.is("fragments(0) after a refused message", x.fragments(0), 6);
        DUE.refusesArgument("write(0, 185, 1), of nine fragments", () -> x.write(0, 185, 1));
        DUE.answers("write(0, 40, 1), of two fragments", 2, () -> x.write(0, 40, 1));
        DUE.refusesState("write(0, 1, 1)", () -> x.write(0, 1, 1));
        DUE.refusesArgument("write(0, 0, 1)", () -> x.write(0, 0, 1));
        for (int i = 0; i < 8; i++) {
            DUE.answers("write(1, 17, 1)", 1, () -> x.write(1, 17, 1));
        }
        DUE.refusesState("write(1, 17, 1)", () -> x.write(1, 17, 1));
        x.tick(1);
        DUE.answers("write(0, 1, 1) after a tick", 1, () -> x.write(0, 1, 1));
        DUE.is("fragments(0)", x.fragments(0), 8);
        TwinNetwork empty = Made.withLink(0, 0, 4, 64, 2, QUEUING);
        DUE.answers("write(0, 184, 1), of eight fragments", 8, () -> empty.write(0, 184, 1));
    }

    private static void messagesAreNumberedByTheirLink() {
        DUE.sentence("the message's number (2), counted from 0 by its link");
        TwinNetwork x = Made.withLink(0, 0, 4, 64, 2, QUEUING);
        x.link(1, 1, 4, 64, 1, QUEUING);
        x.write(0, 30, 0);
        DUE.refusesArgument("write(0, 0, 0)", () -> x.write(0, 0, 0));
        DUE.refusesState("write(0, 184, 0)", () -> x.write(0, 184, 0));
        x.write(0, 1, 0);
        x.tick(1);
        DUE.is("the first message's number", x.onLine(1, 0, 19), 0);
        x.tick(16);
        DUE.is("the number of its second fragment", x.onLine(1, 0, 19), 0);
        x.tick(16);
        DUE.is("the second message's number, after two that were refused", x.onLine(1, 0, 19), 1);
        x.write(1, 1, 0);
        x.tick(1);
        DUE.is("the number of another link's message", x.onLine(1, 1, 19), 0);
    }

    private static void numberOnLine(TwinNetwork x, int number) {
        DUE.is("the upper byte of number " + number, x.onLine(0, 0, 18), number / 256);
        DUE.is("the lower byte of number " + number, x.onLine(0, 0, 19), number % 256);
    }

    /** 258 messages: all are sent but the last ones; number 255 is followed by 256. */
    private static void messageNumbersHaveTwoBytes() {
        DUE.sentence("the message's number (2)");
        TwinNetwork x = Made.withLink(0, 0, 4, 64, 8, SAMPLING);
        for (int number = 0; number < 255; number++) {
            x.write(0, 1, 0);
            if (number % 8 == 7 || number == 254) {
                x.tick(128);
            }
        }
        for (int number = 255; number < 258; number++) {
            x.write(0, 1, 0);
            x.tick(1);
            numberOnLine(x, number);
            x.tick(15);
        }
    }

    /** 65536 messages are more than a run has calls: the count is set from inside. */
    private static void messageNumbersGoRound() {
        DUE.sentence("the message's number (2), counted from 0 by its link (modulo 65536)");
        TwinNetwork x = Made.withLink(0, 0, 4, 64, 8, SAMPLING);
        Forged.countMessages(x, 0, 65535);
        for (int number : new int[] {65535, 0, 1}) {
            x.write(0, 1, 0);
            x.tick(1);
            numberOnLine(x, number);
            x.tick(15);
        }
        DUE.drops("when the numbers went round", x, 9, 2);
    }
}
