/** Terms: what happens to a frame AT AN END SYSTEM, until it is TAKEN. */
public final class TermsEndSystemTest {
    private static final Due DUE = new Due("terms: at an end system");

    public static void main(String[] args) {
        aWrongCheckIsDropped();
        aLinkMustBeSetUp();
        theEndSystemMustBeATarget();
        theFormMustBeRight();
        theSumMustBeRight();
        theLengthMustFit();
        aDroppedFrameIsNotTheLastOne();
        theFirstNumberIsInOrder();
        theNextTwoAreInOrder();
        numbersGoRound();
        theLastOneIsThisInAnyCase();
        theOrderComesFirst();
        eachNetworkHasItsOwnOrder();
        eachLinkHasItsOwnOrder();
        eachSystemHasItsOwnOrder();
        theFirstOneIsTaken();
        afterTheSkewAnyFrameIsTaken();
        theSkewCountsFromTheOneThatWasTaken();
        theSameNumberIsNotTaken();
        numbersMayBe127Ahead();
        zeroIsAlwaysAhead();
        eachLinkAndSystemTakesItsOwn();
        DUE.end();
    }

    private static void aWrongCheckIsDropped() {
        DUE.sentence("AT AN END SYSTEM: 1 its check");
        for (int e = 0; e < 4; e++) {
            int source = (e + 1) % 4;
            TwinNetwork x = Made.withLink(0, source, 4, 64, 1 << e, 6);
            x.write(0, 1, 1);
            x.harm(1, 4 + e, 62, 128);
            x.tick(50);
            DUE.drops("with harm on line " + (4 + e), x, 1, 1);
            DUE.is("port(" + e + ", 0)", x.port(e, 0), 1);
        }
    }

    /** Switches let only frames of links pass, to their targets: what follows is forged on line 7. */
    private static TwinNetwork received(int[] frame) {
        TwinNetwork x = Made.fromZeroToThree(1, Made.QUEUING);
        Forged.put(x, 0, 7, frame);
        x.tick(30);
        return x;
    }

    private static int[] rightFrame(int sequence) {
        return FrameBytes.of(0, 0, 0, FrameBytes.datagram(0, 17, 1), 0, 0, false, sequence);
    }

    private static void aLinkMustBeSetUp() {
        DUE.sentence("2 its link isn't set up");
        TwinNetwork right = received(rightFrame(0));
        DUE.drops("with a right frame", right);
        DUE.is("port(3, 0) with a right frame", right.port(3, 0), 1);
        int[][] wrong = {{0, 2}, {1, 1}, {2, 1}, {3, 1}, {4, 1}, {5, 1}, {5, 7}, {5, 8}, {5, 255}};
        for (int[] a : wrong) {
            int[] frame = rightFrame(0);
            frame[a[0]] = a[1];
            FrameBytes.check(frame);
            DUE.drops("with byte " + a[0] + " " + a[1], received(frame), 2, 1);
            frame[60] ^= 1;
            DUE.drops("with byte " + a[0] + " " + a[1] + " and a wrong check", received(frame), 1, 1);
        }
    }

    private static void theEndSystemMustBeATarget() {
        DUE.sentence("3 the end system is no target of it");
        for (int e = 0; e < 4; e++) {
            for (int byte12 : new int[] {8, 9}) {
                TwinNetwork x = Made.fromZeroToThree(1, Made.QUEUING);
                int[] frame = rightFrame(0);
                frame[12] = byte12;
                FrameBytes.check(frame);
                Forged.put(x, 0, 4 + e, frame);
                x.tick(9);
                DUE.drops("with link 0's frame at " + e, x, 3, e == 3 ? 0 : 1, 7, e == 3 && byte12 != 8 ? 1 : 0);
            }
        }
    }

    private static void theFormMustBeRight() {
        DUE.sentence("7 bytes 12, 13, 14, 23 aren't 8, 0, 69, 17");
        int[][] wrong = {{12, 9}, {12, 7}, {12, 0}, {13, 1}, {13, 255}, {14, 70}, {14, 68}, {14, 0}, {23, 16}, {23, 18},
            {23, 0}};
        for (int[] a : wrong) {
            int[] frame = rightFrame(0);
            frame[a[0]] = a[1];
            FrameBytes.sum(frame);
            FrameBytes.check(frame);
            TwinNetwork x = received(frame);
            DUE.drops("with byte " + a[0] + " " + a[1], x, 7, 1);
            DUE.is("port(3, 0) with byte " + a[0] + " " + a[1], x.port(3, 0), 0);
        }
    }

    private static void theSumMustBeRight() {
        DUE.sentence("or the SUM is wrong");
        for (int k : new int[] {15, 16, 18, 20, 22, 24, 25, 26, 27, 28, 29, 30, 31, 32, 33}) {
            int[] frame = rightFrame(0);
            frame[k] ^= 4;
            FrameBytes.check(frame);
            DUE.drops("with byte " + k + " changed", received(frame), 7, 1);
        }
        // None of these is part of the ten numbers.
        for (int k : new int[] {6, 11, 58}) {
            int[] frame = rightFrame(0);
            frame[k] ^= 4;
            FrameBytes.check(frame);
            DUE.drops("with byte " + k + " changed", received(frame));
        }
    }

    /** A length of 0 is right; the message is too short then. */
    private static void theLengthMustFit() {
        DUE.sentence("or the length told in bytes 16, 17 less 20 is below 0 or above the frame's bytes less 39");
        int[][] lengths = {{0, 7}, {19, 7}, {20, 10}, {21, 10}, {44, 10}, {45, 0}, {46, 7}, {256 + 45, 7}, {65535, 7}};
        for (int[] a : lengths) {
            int[] frame = rightFrame(0);
            frame[16] = a[0] / 256;
            frame[17] = a[0] % 256;
            FrameBytes.sum(frame);
            FrameBytes.check(frame);
            TwinNetwork x = received(frame);
            DUE.is("port(3, 0) with a told length of " + a[0], x.port(3, 0), a[1] == 0 ? 1 : 0);
            if (a[1] != 0) {
                DUE.drops("with a told length of " + a[0], x, a[1], 1);
            }
        }
        int[] greatest = FrameBytes.of(0, 0, 0, FrameBytes.datagram(0, 153, 1), 0, 0, false, 0);
        DUE.is("port(3, 0) with a frame of 200 bytes", received(greatest).port(3, 0), 1);
    }

    private static void aDroppedFrameIsNotTheLastOne() {
        DUE.sentence("Then, for each end system, link and network: the SEQUENCE number is IN ORDER");
        int[] wrong = rightFrame(100);
        wrong[12] = 9;
        FrameBytes.check(wrong);
        TwinNetwork x = received(wrong);
        Forged.put(x, 0, 7, rightFrame(5));
        x.tick(30);
        Forged.put(x, 0, 7, wrong);
        x.tick(30);
        Forged.put(x, 0, 7, rightFrame(6));
        x.tick(30);
        DUE.drops("with two of a wrong form", x, 7, 2);
        DUE.is("port(3, 0)", x.port(3, 0), 2);
    }

    /** A babbled frame that is taken is dropped as no message (10), one that is out of order before that (8). */
    private static void comeInOrder(int first, int second, boolean isInOrder) {
        TwinNetwork x = Made.fromZeroToThree(1, Made.QUEUING);
        Made.babbleAndWait(x, 0, first);
        Made.babbleAndWait(x, 0, second);
        DUE.drops("with " + second + " after " + first, x, 8, isInOrder ? 0 : 1, 10, isInOrder ? 2 : 1);
    }

    private static void theFirstNumberIsInOrder() {
        DUE.sentence("the SEQUENCE number is IN ORDER if it is the first one, or 0");
        for (int number : new int[] {0, 1, 2, 3, 127, 128, 254, 255}) {
            TwinNetwork x = Made.fromZeroToThree(1, Made.QUEUING);
            Made.babbleAndWait(x, 0, number);
            DUE.drops("with " + number + " as the first one", x, 10, 1);
            comeInOrder(number, 0, true);
        }
    }

    private static void theNextTwoAreInOrder() {
        DUE.sentence("or the one or two next of the last one");
        for (int last : new int[] {1, 10, 127, 128, 252}) {
            comeInOrder(last, last + 1, true);
            comeInOrder(last, last + 2, true);
            comeInOrder(last, last + 3, false);
            comeInOrder(last, last, false);
            comeInOrder(last, last == 1 ? 255 : last - 1, false);
            comeInOrder(last, (last + 126) % 255 + 1, false);
        }
    }

    private static void numbersGoRound() {
        DUE.sentence("the one or two next of the last one (0 and 255 are followed by 1)");
        int[][] inOrder = {{0, 1}, {0, 2}, {255, 1}, {255, 2}, {254, 255}, {254, 1}, {253, 254}, {253, 255}};
        for (int[] a : inOrder) {
            comeInOrder(a[0], a[1], true);
        }
        int[][] outOfOrder = {{0, 3}, {0, 255}, {0, 254}, {255, 3}, {255, 255}, {255, 254}, {254, 2}, {254, 254},
            {253, 1}, {253, 2}, {1, 255}, {1, 254}};
        for (int[] a : outOfOrder) {
            comeInOrder(a[0], a[1], false);
        }
    }

    /** Each number is compared with the one before it, whether that was in order or not. */
    private static void theLastOneIsThisInAnyCase() {
        DUE.sentence("the last one is this in any case; 8 it isn't in order");
        int[] numbers = {10, 11, 13, 16, 17, 17, 16, 18, 0, 1, 0, 2, 255, 1, 254, 1, 255, 2, 0, 0, 3};
        boolean[] inOrder = {true, true, true, false, true, false, false, true, true, true, true, true, false,
            true, false, true, false, true, true, true, false};
        TwinNetwork x = Made.fromZeroToThree(1, Made.QUEUING);
        int wrong = 0;
        for (int i = 0; i < numbers.length; i++) {
            Made.babbleAndWait(x, 0, numbers[i]);
            wrong += inOrder[i] ? 0 : 1;
            DUE.drops("after number " + i + ": " + numbers[i], x, 8, wrong, 10, i + 1 - wrong);
        }
    }

    /** 5 again in the same network, before the SKEW is over, is both out of order and not to be taken. */
    private static void theOrderComesFirst() {
        DUE.sentence("8 it isn't in order");
        TwinNetwork x = Made.fromZeroToThree(100, Made.QUEUING);
        Made.babbleAndWait(x, 0, 5);
        Made.babbleAndWait(x, 0, 5);
        DUE.drops("with 5 after 5 in the same network", x, 8, 1, 10, 1);
        Made.babbleAndWait(x, 0, 3);
        DUE.drops("with 3 after 5 in the same network", x, 8, 2, 10, 1);
    }

    private static void eachNetworkHasItsOwnOrder() {
        DUE.sentence("for each end system, link and network: the SEQUENCE number is IN ORDER");
        TwinNetwork x = Made.fromZeroToThree(1, Made.QUEUING);
        int[][] numbers = {{0, 10}, {1, 50}, {0, 12}, {1, 51}};
        for (int[] a : numbers) {
            Made.babbleAndWait(x, a[0], a[1]);
        }
        DUE.drops("with an order in each network", x, 10, 4);
        Made.babbleAndWait(x, 1, 13);
        DUE.drops("with the other network's number", x, 8, 1, 10, 4);
    }

    private static void eachLinkHasItsOwnOrder() {
        DUE.sentence("for each end system, link and network: the SEQUENCE number is IN ORDER");
        TwinNetwork x = Made.fromZeroToThree(1, Made.QUEUING);
        x.link(1, 0, 4, 64, 8, 6);
        int[][] numbers = {{0, 10}, {1, 50}, {0, 12}, {1, 51}};
        for (int[] a : numbers) {
            x.babble(0, 0, a[0], 64, a[1]);
            x.tick(17);
        }
        DUE.drops("with an order in each link", x, 10, 4);
    }

    /** Of 10, 11, 12, 13 the two in the middle are lost before line 7: at 3 it is 13 after 10. */
    private static void eachSystemHasItsOwnOrder() {
        DUE.sentence("for each end system, link and network: the SEQUENCE number is IN ORDER");
        TwinNetwork x = Made.withLink(0, 1, 4, 64, 9, 6);
        for (int n = 10; n < 14; n++) {
            x.babble(0, 1, 0, 64, n);
            if (n == 11 || n == 12) {
                x.harm(0, 7, 0, 0);
            }
            x.tick(25);
        }
        DUE.drops("with two lost on the way to one of two", x, 0, 2, 8, 1, 10, 5);
    }

    /** The frame of network 1 starts so many ticks after that of network 0. */
    private static TwinNetwork apart(int skew, int first, int second, int ticks) {
        TwinNetwork x = Made.fromZeroToThree(skew, Made.QUEUING);
        x.babble(0, 0, 0, 64, first);
        x.tick(ticks);
        x.babble(1, 0, 0, 64, second);
        x.tick(17);
        return x;
    }

    private static void isTaken(int skew, int first, int second, int ticks) {
        DUE.drops("with " + second + " " + ticks + " ticks after " + first + " and a SKEW of " + skew,
                apart(skew, first, second, ticks), 10, 2);
    }

    private static void isNotTaken(int skew, int first, int second, int ticks) {
        DUE.drops("with " + second + " " + ticks + " ticks after " + first + " and a SKEW of " + skew,
                apart(skew, first, second, ticks), 9, 1, 10, 1);
    }

    private static void theFirstOneIsTaken() {
        DUE.sentence("it is TAKEN if it is the first one");
        for (int number : new int[] {0, 1, 128, 200, 255}) {
            TwinNetwork x = Made.fromZeroToThree(1000, Made.QUEUING);
            Made.babbleAndWait(x, 1, number);
            DUE.drops("with " + number + " as the first one", x, 10, 1);
        }
    }

    private static void afterTheSkewAnyFrameIsTaken() {
        DUE.sentence("or more than SKEW ticks have passed since the last one was taken");
        for (int skew : new int[] {1, 2, 30, 999, 1000}) {
            for (int[] a : new int[][] {{5, 5}, {5, 4}, {5, 200}, {0, 0}, {255, 255}, {1, 255}}) {
                isNotTaken(skew, a[0], a[1], skew - 1);
                isNotTaken(skew, a[0], a[1], skew);
                isTaken(skew, a[0], a[1], skew + 1);
            }
        }
        isTaken(1, 5, 4, 2000);
    }

    /** 5 is taken, then 4 isn't; 31 ticks after the first one it is, though the other was there since. */
    private static void theSkewCountsFromTheOneThatWasTaken() {
        DUE.sentence("more than SKEW ticks have passed since the last one was taken");
        for (int ticks = 10; ticks <= 11; ticks++) {
            TwinNetwork x = Made.fromZeroToThree(30, Made.QUEUING);
            x.babble(0, 0, 0, 64, 5);
            x.tick(20);
            x.babble(1, 0, 0, 64, 4);
            x.tick(ticks);
            x.babble(1, 0, 0, 64, 5);
            x.tick(17);
            DUE.drops("with one in between and 5 again after " + (20 + ticks), x, 9, ticks == 10 ? 2 : 1, 10,
                    ticks == 10 ? 1 : 2);
        }
    }

    private static void theSameNumberIsNotTaken() {
        DUE.sentence("or its number isn't the last one's");
        for (int number : new int[] {0, 1, 127, 128, 254, 255}) {
            isNotTaken(100, number, number, 0);
            isNotTaken(100, number, number, 100);
        }
        TwinNetwork x = Made.fromZeroToThree(20, Made.QUEUING);
        x.write(0, 40, 1);
        x.tick(16);
        DUE.drops("before they come", x);
        x.tick(1);
        DUE.drops("when the first fragment came", x, 9, 1);
        x.tick(16);
        DUE.drops("when both came", x, 9, 2);
        DUE.is("port(3, 0)", x.port(3, 0), 1);
    }

    private static void numbersMayBe127Ahead() {
        DUE.sentence("or it is less than 128 ahead, going round from 255 to 1");
        int[][] ahead = {{5, 6}, {5, 131}, {5, 132}, {1, 128}, {128, 255}, {133, 5}, {255, 1}, {255, 126}, {255, 127},
            {254, 255}, {254, 1}, {254, 126}, {200, 72}, {129, 1}};
        for (int[] a : ahead) {
            isTaken(100, a[0], a[1], 0);
        }
        int[][] behind = {{5, 133}, {5, 134}, {5, 4}, {1, 129}, {1, 255}, {128, 1}, {132, 5}, {255, 128}, {255, 254},
            {254, 127}, {200, 73}, {6, 255}};
        for (int[] a : behind) {
            isNotTaken(100, a[0], a[1], 0);
        }
    }

    private static void zeroIsAlwaysAhead() {
        DUE.sentence("its number isn't the last one's and (is 0, or the last one's is");
        for (int number : new int[] {1, 5, 127, 128, 129, 250, 255}) {
            isTaken(100, number, 0, 0);
            isTaken(100, 0, number, 0);
        }
        isNotTaken(100, 0, 0, 0);
    }

    /** The frame of network 0 is lost on the way to 3: that of network 1 is taken there, and not at 0. */
    private static void eachLinkAndSystemTakesItsOwn() {
        DUE.sentence("Then, for each end system and link: it is TAKEN if it is the first one");
        TwinNetwork x = Made.withLink(0, 1, 4, 64, 9, 4 * 100 + 2);
        x.write(0, 1, 1);
        x.harm(0, 7, 0, 0);
        x.tick(25);
        DUE.drops("with one lost on the way to one of two", x, 0, 1, 9, 1);
        DUE.is("port(0, 0)", x.port(0, 0), 1);
        DUE.is("port(3, 0)", x.port(3, 0), 1);
        TwinNetwork two = Made.fromZeroToThree(100, Made.QUEUING);
        two.link(1, 0, 4, 64, 8, 4 * 100 + 2);
        two.babble(0, 0, 0, 64, 5);
        two.babble(0, 0, 1, 64, 5);
        two.tick(30);
        DUE.drops("with the same number of two links", two, 10, 2);
    }
}
