/** Promise 3: a message is cut into fragments, which wait. */
public final class Promise03WriteTest {
    private static final Due DUE = new Due("promise 3");

    public static void main(String[] args) {
        queuingMessagesAreCut();
        samplingMessagesAreNot();
        wrongArgumentsAreRefused();
        onlyEightFragmentsWait();
        fragmentsCarryTheDatagram();
        messagesAreNumberedByTheirLink();
        DUE.end();
    }

    private static void needs(int most, int flags, int size, int fragments) {
        TwinNetwork x = new TwinNetwork();
        x.link(0, 0, 4, most, 2, flags);
        DUE.answers("write(0, " + size + ", 1) with MOST " + most, fragments, () -> x.write(0, size, 1));
        DUE.is("fragments(0)", x.fragments(0), fragments);
    }

    private static void doesNotFit(int most, int flags, int size) {
        TwinNetwork x = new TwinNetwork();
        x.link(0, 0, 4, most, 2, flags);
        DUE.refusesArgument("write(0, " + size + ", 1) with MOST " + most, () -> x.write(0, size, 1));
        DUE.is("fragments(0)", x.fragments(0), 0);
    }

    private static void queuingMessagesAreCut() {
        needs(64, 6, 1, 1);
        needs(64, 6, 16, 1);
        needs(64, 6, 17, 2);
        needs(64, 6, 40, 2);
        needs(64, 6, 41, 3);
        needs(64, 6, 184, 8);
        doesNotFit(64, 6, 185);
        needs(70, 6, 184, 8);
        doesNotFit(70, 6, 185);
        needs(71, 6, 185, 7);
        needs(71, 6, 248, 8);
        doesNotFit(71, 6, 249);
        needs(95, 6, 400, 8);
        doesNotFit(94, 6, 400);
        needs(128, 6, 400, 5);
        doesNotFit(128, 6, 401);
    }

    private static void samplingMessagesAreNot() {
        needs(64, 4, 17, 1);
        doesNotFit(64, 4, 18);
        needs(128, 4, 81, 1);
        doesNotFit(128, 4, 82);
        doesNotFit(128, 5, 400);
    }

    private static void wrongArgumentsAreRefused() {
        doesNotFit(64, 6, 0);
        doesNotFit(64, 6, -1);
        doesNotFit(64, 4, 0);
        doesNotFit(128, 6, Integer.MIN_VALUE);
        doesNotFit(128, 6, Integer.MAX_VALUE);
        TwinNetwork x = new TwinNetwork();
        x.link(0, 0, 4, 64, 2, 6);
        DUE.refusesArgument("write(-1, 1, 1)", () -> x.write(-1, 1, 1));
        DUE.refusesArgument("write(8, 1, 1)", () -> x.write(8, 1, 1));
        DUE.refusesArgument("write(1, 1, 1)", () -> x.write(1, 1, 1));
    }

    private static void onlyEightFragmentsWait() {
        TwinNetwork x = new TwinNetwork();
        x.link(0, 0, 4, 64, 2, 6);
        x.link(1, 0, 4, 64, 2, 4);
        DUE.answers("write(0, 136, 1)", 6, () -> x.write(0, 136, 1));
        DUE.refusesState("write(0, 41, 1)", () -> x.write(0, 41, 1));
        DUE.is("fragments(0)", x.fragments(0), 6);
        DUE.refusesArgument("write(0, 185, 1)", () -> x.write(0, 185, 1));
        DUE.answers("write(0, 40, 1)", 2, () -> x.write(0, 40, 1));
        DUE.refusesState("write(0, 1, 1)", () -> x.write(0, 1, 1));
        for (int i = 0; i < 8; i++) {
            DUE.answers("write(1, 17, 1)", 1, () -> x.write(1, 17, 1));
        }
        DUE.refusesState("write(1, 17, 1)", () -> x.write(1, 17, 1));
        x.tick(1);
        DUE.answers("write(0, 1, 1) after a tick", 1, () -> x.write(0, 1, 1));
        DUE.is("fragments(0)", x.fragments(0), 8);
    }

    /** 30 bytes with seed -3 over link 5 of MOST 64: a datagram of 38 bytes, in fragments of 24 and 14. */
    private static void fragmentsCarryTheDatagram() {
        TwinNetwork x = new TwinNetwork();
        x.link(5, 0, 4, 64, 2, 6);
        x.write(5, 30, -3);
        x.tick(1);
        int[] head = {3, 237, 7, 213, 0, 38, 0, 0, 253, 34, 71, 109};
        for (int i = 0; i < head.length; i++) {
            DUE.is("byte " + i + " of the datagram", x.onLine(0, 0, 34 + i), head[i]);
        }
        DUE.is("more follow", x.onLine(0, 0, 20), 32);
        DUE.is("the place", x.onLine(0, 0, 21), 0);
        DUE.is("the length", x.onLine(0, 0, 17), 44);
        x.tick(16);
        DUE.is("no more follow", x.onLine(0, 0, 20), 0);
        DUE.is("the second place", x.onLine(0, 0, 21), 3);
        DUE.is("the second length", x.onLine(0, 0, 17), 34);
        DUE.is("byte 16 of the message", x.onLine(0, 0, 34), -3 + 37 * 16 + 32 & 255);
        DUE.is("byte 29 of the message", x.onLine(0, 0, 47), -3 + 37 * 29 + 105 & 255);
        DUE.is("behind the message", x.onLine(0, 0, 48), 0);
        DUE.is("the frame's size", x.onLine(0, 0, -1), 64);
    }

    private static void messagesAreNumberedByTheirLink() {
        TwinNetwork x = new TwinNetwork();
        x.link(0, 0, 4, 64, 2, 6);
        x.link(1, 1, 4, 64, 1, 6);
        x.write(0, 30, 0);
        DUE.refusesArgument("write(0, 0, 0)", () -> x.write(0, 0, 0));
        DUE.refusesState("write(0, 184, 0)", () -> x.write(0, 184, 0));
        x.write(0, 1, 0);
        x.tick(1);
        DUE.is("the first message's number", x.onLine(1, 0, 19), 0);
        x.tick(16);
        DUE.is("the number of its second fragment", x.onLine(1, 0, 19), 0);
        x.tick(16);
        DUE.is("the second message's number", x.onLine(1, 0, 19), 1);
        x.write(1, 1, 0);
        x.tick(1);
        DUE.is("the number of another link's message", x.onLine(1, 1, 19), 0);
    }
}
