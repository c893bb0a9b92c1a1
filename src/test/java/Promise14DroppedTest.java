/** Promise 14: how many frames were dropped, for each reason. */
public final class Promise14DroppedTest {
    private static final Due DUE = new Due("promise 14");

    public static void main(String[] args) {
        otherReasonsAreNotThere();
        lostAndSpoiltFramesAreCounted();
        aCheckComesBeforeAllElse();
        thePathComesBeforeTheLengthAndTheAccount();
        fullRowsOfSystemsDrop();
        fullRowsOfSwitchesDropForEach();
        sequenceNumbersMustBeInOrder();
        eachNetworkHasItsOwnOrder();
        aFrameIsTakenOnce();
        afterTheSkewAnyFrameIsTaken();
        numbersMayBe127Ahead();
        zeroIsAlwaysAhead();
        fragmentsMustFollow();
        aNewMessageEndsABegunOne();
        fragmentsMustHaveTheNumber();
        fullPortsDrop();
        DUE.end();
    }

    private static void otherReasonsAreNotThere() {
        TwinNetwork x = new TwinNetwork();
        for (int reason = 0; reason < 12; reason++) {
            DUE.is("dropped(" + reason + ")", x.dropped(reason), 0);
        }
        for (int reason : new int[] {-1, 12, Integer.MIN_VALUE, Integer.MAX_VALUE}) {
            DUE.is("dropped(" + reason + ")", x.dropped(reason), -1);
        }
    }

    /** Link 0 from end system 0 to 3, by lines 0 and 7, with a SKEW. */
    private static TwinNetwork fromZeroToThree(int skew, int more) {
        TwinNetwork x = new TwinNetwork();
        x.link(0, 0, 4, 64, 8, 4 * skew + more);
        return x;
    }

    /** Reasons and numbers in turn; all others are 0. */
    private static void drops(String when, TwinNetwork x, int... due) {
        int[] want = new int[12];
        for (int i = 0; i < due.length; i += 2) {
            want[due[i]] = due[i + 1];
        }
        for (int reason = 0; reason < 12; reason++) {
            DUE.is("dropped(" + reason + ") " + when, x.dropped(reason), want[reason]);
        }
    }

    private static void lostAndSpoiltFramesAreCounted() {
        TwinNetwork x = fromZeroToThree(20, 2);
        x.write(0, 1, 1);
        x.harm(0, 0, 0, 0);
        x.harm(1, 7, 1, 1);
        x.tick(30);
        drops("with a lost and a spoilt frame", x, 0, 1, 1, 1);
        DUE.is("port(3, 0)", x.port(3, 0), 0);
    }

    private static void aCheckComesBeforeAllElse() {
        TwinNetwork x = fromZeroToThree(20, 2);
        x.babble(0, 1, 5, 200, 0);
        x.harm(0, 1, 5, 7);
        x.tick(40);
        drops("with a spoilt frame of no link", x, 1, 1);
        x.babble(0, 1, 5, 200, 0);
        x.tick(40);
        drops("with a frame of no link", x, 1, 1, 2, 1);
    }

    private static void thePathComesBeforeTheLengthAndTheAccount() {
        TwinNetwork x = fromZeroToThree(20, 2);
        x.babble(0, 1, 0, 200, 0);
        x.tick(40);
        drops("with a frame on a wrong line that is too long", x, 3, 1);
        x.babble(0, 0, 0, 65, 0);
        x.tick(40);
        drops("with a frame that is too long", x, 3, 1, 4, 1);
        DUE.is("account(0, 0)", x.account(0, 0), 5120);
    }

    /** Eight links of end system 0, each with a frame each 16 ticks; the line carries two in that time. */
    private static void fullRowsOfSystemsDrop() {
        TwinNetwork x = new TwinNetwork();
        for (int l = 0; l < 8; l++) {
            x.link(l, 0, 4, 64, 8, 6);
            x.write(l, 184, l);
        }
        x.tick(1);
        DUE.is("waiting(0, 0, 0) at 1", x.waiting(0, 0, 0), 7);
        x.tick(16);
        DUE.is("waiting(0, 0, 0) at 17", x.waiting(0, 0, 0), 13);
        x.tick(15);
        DUE.is("dropped(6) at 32", x.dropped(6), 0);
        DUE.is("waiting(0, 0, 0) at 32", x.waiting(0, 0, 0), 12);
        x.tick(1);
        DUE.is("dropped(6) at 33, of both networks", x.dropped(6), 8);
        DUE.is("waiting(1, 0, 0) at 33", x.waiting(1, 0, 0), 15);
        DUE.is("fragments(7)", x.fragments(7), 5);
    }

    /**
     * Lines 4 and 7 get frames of 64 bytes by line 10, each 8 ticks, the same ones, and each of them frames of
     * 128 bytes, each 16 ticks: in tick 48 both rows are full, and one frame is dropped twice.
     */
    private static void fullRowsOfSwitchesDropForEach() {
        TwinNetwork x = new TwinNetwork();
        x.link(0, 1, 4, 64, 9, 6);
        x.link(1, 3, 4, 128, 1, 6);
        x.link(2, 0, 4, 128, 8, 6);
        for (int i = 0; i < 6; i++) {
            x.babble(0, 1, 0, 64, i);
        }
        for (int i = 0; i < 3; i++) {
            x.babble(0, 3, 1, 128, i);
            x.babble(0, 0, 2, 128, i);
        }
        x.tick(48);
        DUE.is("dropped(6) at 48", x.dropped(6), 0);
        x.tick(1);
        DUE.is("dropped(6) at 49", x.dropped(6), 2);
        x.tick(200);
        drops("when all others came", x, 6, 2, 10, 2 * 5 + 2 * 3);
    }

    /** A babbled frame that is taken is dropped as no message (10). */
    private static void sequenceNumbersMustBeInOrder() {
        int[] numbers = {10, 11, 13, 16, 17, 17, 16, 18, 0, 1, 0, 2, 255, 1, 254, 1, 255, 2, 0, 0, 3};
        boolean[] inOrder = {true, true, true, false, true, false, false, true, true, true, true, true, false,
            true, false, true, false, true, true, true, false};
        TwinNetwork x = fromZeroToThree(1, 2);
        int wrong = 0;
        for (int i = 0; i < numbers.length; i++) {
            x.babble(0, 0, 0, 64, numbers[i]);
            x.tick(40);
            wrong += inOrder[i] ? 0 : 1;
            drops("after number " + i + ": " + numbers[i], x, 8, wrong, 10, i + 1 - wrong);
        }
    }

    private static void eachNetworkHasItsOwnOrder() {
        TwinNetwork x = fromZeroToThree(1, 2);
        x.babble(0, 0, 0, 64, 10);
        x.tick(40);
        x.babble(1, 0, 0, 64, 50);
        x.tick(40);
        x.babble(0, 0, 0, 64, 12);
        x.tick(40);
        x.babble(1, 0, 0, 64, 51);
        x.tick(40);
        drops("with an order in each network", x, 10, 4);
        x.babble(1, 0, 0, 64, 13);
        x.tick(40);
        drops("with the other network's number", x, 8, 1, 10, 4);
    }

    private static void aFrameIsTakenOnce() {
        TwinNetwork x = fromZeroToThree(20, 2);
        x.write(0, 40, 1);
        x.tick(16);
        drops("before they come", x);
        x.tick(1);
        drops("when the first fragment came", x, 9, 1);
        x.tick(16);
        drops("when both came", x, 9, 2);
        DUE.is("port(3, 0)", x.port(3, 0), 1);
    }

    /** The frame of network 1 starts so many ticks after that of network 0. */
    private static TwinNetwork apart(int skew, int first, int second, int ticks) {
        TwinNetwork x = fromZeroToThree(skew, 2);
        x.babble(0, 0, 0, 64, first);
        x.tick(ticks);
        x.babble(1, 0, 0, 64, second);
        x.tick(40);
        return x;
    }

    private static void afterTheSkewAnyFrameIsTaken() {
        drops("with the same one at the same time", apart(1, 5, 5, 0), 9, 1, 10, 1);
        drops("with the same one SKEW ticks later", apart(30, 5, 5, 30), 9, 1, 10, 1);
        drops("with the same one after the SKEW", apart(30, 5, 5, 31), 10, 2);
        drops("with one before it SKEW ticks later", apart(30, 5, 4, 30), 9, 1, 10, 1);
        drops("with one before it after the SKEW", apart(30, 5, 4, 31), 10, 2);
        drops("with 0 again SKEW ticks later", apart(1000, 0, 0, 1000), 9, 1, 10, 1);
        drops("with 0 again after the SKEW", apart(1000, 0, 0, 1001), 10, 2);
        skewCountsFromTheOneThatWasTaken();
    }

    /** 5 is taken, again 5 isn't; 31 ticks after the first one it is taken, though the second was there since. */
    private static void skewCountsFromTheOneThatWasTaken() {
        TwinNetwork x = fromZeroToThree(30, 2);
        x.babble(0, 0, 0, 64, 5);
        x.tick(20);
        x.babble(1, 0, 0, 64, 4);
        x.tick(11);
        x.babble(1, 0, 0, 64, 5);
        x.tick(40);
        drops("with one in between", x, 9, 1, 10, 2);
    }

    private static void numbersMayBe127Ahead() {
        drops("with 1 ahead", apart(100, 5, 6, 0), 10, 2);
        drops("with 127 ahead", apart(100, 5, 132, 0), 10, 2);
        drops("with 128 ahead", apart(100, 5, 133, 0), 9, 1, 10, 1);
        drops("with 1 behind", apart(100, 5, 4, 0), 9, 1, 10, 1);
        drops("with 127 behind", apart(100, 132, 5, 0), 9, 1, 10, 1);
        drops("with 128 behind, which is 127 ahead", apart(100, 133, 5, 0), 10, 2);
        drops("with 1 after 255", apart(100, 255, 1, 0), 10, 2);
        drops("with 127 after 255", apart(100, 255, 127, 0), 10, 2);
        drops("with 128 after 255", apart(100, 255, 128, 0), 9, 1, 10, 1);
        drops("with 255 after 1", apart(100, 1, 255, 0), 9, 1, 10, 1);
    }

    private static void zeroIsAlwaysAhead() {
        drops("with 0 after 5", apart(100, 5, 0, 0), 10, 2);
        drops("with 0 after 250", apart(100, 250, 0, 0), 10, 2);
        drops("with 200 after 0", apart(100, 0, 200, 0), 10, 2);
        drops("with 0 after 0", apart(100, 0, 0, 0), 9, 1, 10, 1);
    }

    /** Of eight fragments the third one is lost on both networks: the last five go on nowhere. */
    private static void fragmentsMustFollow() {
        TwinNetwork x = fromZeroToThree(20, 2);
        x.write(0, 184, 1);
        x.tick(32);
        x.harm(0, 0, 0, 0);
        x.harm(1, 0, 0, 0);
        x.tick(150);
        drops("with the third fragment lost", x, 0, 2, 9, 7, 10, 5);
        DUE.is("port(3, 0)", x.port(3, 0), 0);
        x.write(0, 184, 1);
        x.tick(150);
        drops("with a whole message after it", x, 0, 2, 9, 15, 10, 5);
        DUE.is("port(3, 0) with a whole message", x.port(3, 0), 1);
    }

    /** The second fragment of a message is lost; the next message comes whole. */
    private static void aNewMessageEndsABegunOne() {
        TwinNetwork x = fromZeroToThree(20, 2);
        x.write(0, 40, 1);
        x.write(0, 30, 2);
        x.tick(16);
        x.harm(0, 0, 0, 0);
        x.harm(1, 0, 0, 0);
        x.tick(70);
        drops("with a message after a begun one", x, 0, 2, 9, 3);
        DUE.answers("read(3, 0)", 30, () -> x.read(3, 0));
        DUE.is("byteOf(0)", x.byteOf(0), 2);
    }

    /**
     * Frames 1, 2 and 3, 4 are two messages of the same size; 2 and 3 are lost. Two babbled frames bring the
     * order of network 0 to 3, so that 4 gets as far as its message: it has the place, but not the number.
     */
    private static void fragmentsMustHaveTheNumber() {
        TwinNetwork x = fromZeroToThree(100, 2);
        x.write(0, 1, 0);
        x.write(0, 40, 1);
        x.write(0, 40, 2);
        x.tick(32);
        for (int babbled : new int[] {200, 3}) {
            x.harm(0, 0, 0, 0);
            x.harm(1, 0, 0, 0);
            x.tick(1);
            x.babble(0, 0, 0, 64, babbled);
            x.tick(15);
        }
        x.tick(100);
        drops("with an end of another message", x, 0, 4, 8, 3, 9, 2, 10, 1);
        DUE.is("port(3, 0)", x.port(3, 0), 1);
    }

    private static void fullPortsDrop() {
        TwinNetwork x = fromZeroToThree(20, 2);
        for (int i = 0; i < 6; i++) {
            x.write(0, 1, i);
        }
        x.tick(200);
        drops("with six messages", x, 9, 6, 11, 2);
        x.read(3, 0);
        x.write(0, 1, 9);
        x.tick(100);
        drops("with room again", x, 9, 7, 11, 2);
        TwinNetwork sampling = fromZeroToThree(20, 0);
        for (int i = 0; i < 6; i++) {
            sampling.write(0, 1, i);
        }
        sampling.tick(200);
        drops("with six sampling messages", sampling, 9, 6);
    }
}
