import java.util.Arrays;

/** Terms: how FRAGMENTS are put together to messages, which go to the PORT. */
public final class TermsFragmentsTest {
    private static final Due DUE = new Due("terms: fragments and ports");

    public static void main(String[] args) {
        fragmentsMakeAMessage();
        placeZeroBeginsAMessage();
        anotherMustHaveTheNumber();
        anotherMustHaveThePlace();
        anotherNeedsABegunOne();
        lostFragmentsEndAMessage();
        framesThatAreNotTakenChangeNothing();
        theFirstEightBytesMustBeThere();
        theLengthMustBeTold();
        aMessageHasAtMostAThousandBytes();
        theSampledMessageIsReplaced();
        fourMessagesAreQueued();
        eachPortHasItsOwnRoom();
        DUE.end();
    }

    /** An object to which fragments come as they are told, each with the next sequence number. */
    private static final class Receiver {
        final TwinNetwork x = Made.fromZeroToThree(1, Made.QUEUING);
        private int sequence = 1;

        /** A frame that no call makes: it is forged on line 7. */
        void comes(int number, int place, boolean more, int[] bytes) {
            Forged.put(x, 0, 7, FrameBytes.of(0, 0, 0, bytes, number, place, more, sequence));
            x.tick(30);
            sequence = sequence % 255 + 1;
        }

        void stands(String when, int messages, int broken) {
            DUE.is("port(3, 0) " + when, x.port(3, 0), messages);
            DUE.drops(when, x, 10, broken);
        }
    }

    /** Of a datagram of 48 bytes, with a message of 40. */
    private static int[] part(int from, int to) {
        return Arrays.copyOfRange(FrameBytes.datagram(0, 40, 1), from, to);
    }

    private static void fragmentsMakeAMessage() {
        DUE.sentence("If none follows it is finished");
        Receiver r = new Receiver();
        r.comes(7, 0, true, part(0, 16));
        r.stands("with one of three", 0, 0);
        r.comes(7, 16, true, part(16, 40));
        r.stands("with two of three", 0, 0);
        r.comes(7, 40, false, part(40, 48));
        r.stands("with three of three", 1, 0);
        DUE.answers("read(3, 0)", 40, () -> r.x.read(3, 0));
        for (int i = 0; i < 40; i++) {
            DUE.is("byteOf(" + i + ")", r.x.byteOf(i), 1 + 37 * i + i * i / 8 & 255);
        }
        r.comes(7, 48, false, part(40, 48));
        r.stands("with one more when it is finished", 0, 1);
        // 16 bytes that tell 24 are finished, and no message; 8 bytes more don't make them one.
        Receiver broken = new Receiver();
        broken.comes(7, 0, false, told(16, 24));
        broken.stands("with 16 of 24 bytes", 0, 1);
        broken.comes(7, 16, false, new int[8]);
        broken.stands("with 8 bytes more when it is finished", 0, 2);
    }

    private static void placeZeroBeginsAMessage() {
        DUE.sentence("one of place 0 begins a message (a begun one is lost)");
        Receiver r = new Receiver();
        r.comes(7, 0, true, part(0, 16));
        r.comes(8, 0, true, part(0, 24));
        r.stands("with another begun", 0, 0);
        r.comes(8, 24, false, part(24, 48));
        r.stands("with the other finished", 1, 0);
        r.comes(7, 16, false, part(16, 48));
        r.stands("with the rest of the one that was lost", 1, 1);
        Receiver same = new Receiver();
        same.comes(7, 0, true, part(0, 16));
        same.comes(7, 0, true, part(0, 16));
        same.comes(7, 16, false, part(16, 48));
        same.stands("with the same one begun again", 1, 0);
        Receiver whole = new Receiver();
        whole.comes(7, 0, true, part(0, 16));
        whole.comes(8, 0, false, part(0, 48));
        whole.stands("with a whole one in between", 1, 0);
        whole.comes(7, 16, false, part(16, 48));
        whole.stands("with the rest after a whole one in between", 1, 1);
    }

    private static void anotherMustHaveTheNumber() {
        DUE.sentence("another must have the number and place at which the begun one goes on, else 10, "
                + "and the begun one is lost");
        for (int number : new int[] {6, 8, 7 + 256, 7 ^ 32768}) {
            Receiver r = new Receiver();
            r.comes(7, 0, true, part(0, 16));
            r.comes(number, 16, false, part(16, 48));
            r.stands("with number " + number + " after 7", 0, 1);
            r.comes(7, 16, false, part(16, 48));
            r.stands("with the rest after number " + number, 0, 2);
        }
        Receiver greatest = new Receiver();
        greatest.comes(65535, 0, true, part(0, 16));
        greatest.comes(65535, 16, false, part(16, 48));
        greatest.stands("with number 65535", 1, 0);
    }

    private static void anotherMustHaveThePlace() {
        DUE.sentence("another must have the number and place at which the begun one goes on, else 10, "
                + "and the begun one is lost");
        for (int place : new int[] {8, 24, 128, 2040}) {
            Receiver r = new Receiver();
            r.comes(7, 0, true, part(0, 16));
            r.comes(7, place, false, part(16, 48));
            r.stands("with place " + place + " after 16 bytes", 0, 1);
            r.comes(7, 16, false, part(16, 48));
            r.stands("with the rest after place " + place, 0, 2);
        }
        Receiver twice = new Receiver();
        twice.comes(7, 0, true, part(0, 16));
        twice.comes(7, 16, true, part(16, 32));
        twice.comes(7, 16, true, part(16, 32));
        twice.stands("with the same place twice", 0, 1);
    }

    private static void anotherNeedsABegunOne() {
        DUE.sentence("another must have the number and place at which the begun one goes on, else 10");
        Receiver r = new Receiver();
        r.comes(0, 8, true, part(8, 32));
        r.stands("with nothing begun", 0, 1);
        r.comes(0, 32, false, part(32, 48));
        r.stands("with nothing begun, and the last one", 0, 2);
        r.comes(0, 0, false, part(0, 48));
        r.stands("with a whole one", 1, 2);
    }

    /** Of eight fragments the third one is lost on both networks: the last five go on nowhere. */
    private static void lostFragmentsEndAMessage() {
        DUE.sentence("else 10, and the begun one is lost");
        TwinNetwork x = Made.fromZeroToThree(20, Made.QUEUING);
        x.write(0, 184, 1);
        x.tick(32);
        x.harm(0, 0, 0, 0);
        x.harm(1, 0, 0, 0);
        x.tick(150);
        DUE.drops("with the third fragment lost", x, 0, 2, 9, 7, 10, 5);
        DUE.is("port(3, 0)", x.port(3, 0), 0);
        x.write(0, 184, 1);
        x.tick(150);
        DUE.drops("with a whole message after it", x, 0, 2, 9, 15, 10, 5);
        DUE.is("port(3, 0) with a whole message", x.port(3, 0), 1);
        x.write(0, 40, 1);
        x.write(0, 30, 2);
        x.tick(16);
        x.harm(0, 0, 0, 0);
        x.harm(1, 0, 0, 0);
        x.tick(70);
        DUE.drops("with the last fragment lost", x, 0, 4, 9, 18, 10, 5);
        DUE.is("port(3, 0) with the message after it", x.port(3, 0), 2);
    }

    /** Frames that are out of order (8) or were there already (9) get no further. */
    private static void framesThatAreNotTakenChangeNothing() {
        DUE.sentence("8 it isn't in order");
        TwinNetwork x = Made.fromZeroToThree(20, Made.QUEUING);
        x.write(0, 40, 1);
        x.tick(1);
        x.babble(0, 0, 0, 64, 200);
        x.tick(40);
        DUE.drops("with one out of order between two fragments", x, 8, 2, 9, 1);
        DUE.is("port(3, 0)", x.port(3, 0), 1);
        DUE.sentence("else 9");
        TwinNetwork y = Made.fromZeroToThree(20, Made.QUEUING);
        y.write(0, 40, 1);
        y.tick(1);
        y.babble(1, 0, 0, 64, 0);
        y.tick(40);
        DUE.drops("with one that was there between two fragments", y, 9, 3);
        DUE.is("port(3, 0)", y.port(3, 0), 1);
    }

    private static int[] told(int length, int told) {
        int[] datagram = new int[length];
        if (length > 5) {
            datagram[4] = told / 256;
            datagram[5] = told % 256;
        }
        return datagram;
    }

    private static void theFirstEightBytesMustBeThere() {
        DUE.sentence("the first 8 bytes must be there, and bytes 4, 5 tell its length, else 10");
        for (int length = 0; length < 10; length++) {
            Receiver r = new Receiver();
            r.comes(0, 0, false, told(length, length));
            r.stands("with " + length + " bytes", length < 8 ? 0 : 1, length < 8 ? 1 : 0);
        }
        Receiver empty = new Receiver();
        empty.comes(0, 0, false, told(8, 8));
        DUE.answers("read(3, 0) of a message of none", 0, () -> empty.x.read(3, 0));
        DUE.is("port(3, 0) after it", empty.x.port(3, 0), 0);
        Receiver later = new Receiver();
        later.comes(0, 0, true, part(0, 0));
        later.comes(0, 0, true, part(0, 8));
        later.comes(0, 8, false, part(8, 48));
        later.stands("with 8 bytes in the first fragment", 1, 0);
    }

    private static void theLengthMustBeTold() {
        DUE.sentence("bytes 4, 5 tell its length, else 10");
        for (int length : new int[] {9, 48, 161}) {
            for (int told : new int[] {0, length - 1, length + 1, length + 256, length * 256 % 65536, length}) {
                Receiver r = new Receiver();
                r.comes(0, 0, false, told(length, told));
                int messages = told == length ? 1 : 0;
                r.stands(length + " bytes with a told length of " + told, messages, 1 - messages);
            }
        }
        Receiver r = new Receiver();
        r.comes(0, 0, true, told(160, 304));
        r.comes(0, 160, false, new int[144]);
        r.stands("with 304 bytes", 1, 0);
    }

    /** 960 bytes in fragments of 160, and the last one. */
    private static void aMessageHasAtMostAThousandBytes() {
        DUE.sentence("(A place and length together above 1000 bytes: 10.)");
        int[][] last = {{39, 999}, {40, 1000}, {41, 1001}, {41, 1000}, {160, 1120}};
        for (int[] a : last) {
            Receiver r = new Receiver();
            r.comes(0, 0, true, told(160, a[1]));
            for (int place = 160; place < 960; place += 160) {
                r.comes(0, place, true, new int[160]);
            }
            r.stands("with 960 bytes", 0, 0);
            r.comes(0, 960, false, new int[a[0]]);
            r.stands("with " + a[0] + " more", a[0] > 40 ? 0 : 1, a[0] > 40 ? 1 : 0);
            DUE.answers("read(3, 0)", a[0] > 40 ? 0 : 952 + a[0], () -> r.x.read(3, 0));
        }
        Receiver r = new Receiver();
        r.comes(0, 0, true, told(160, 1001));
        for (int place = 160; place < 960; place += 160) {
            r.comes(0, place, true, new int[160]);
        }
        r.comes(0, 960, true, new int[40]);
        r.stands("with 1000 bytes and more following", 0, 0);
        r.comes(0, 1000, false, new int[1]);
        r.stands("with place 1000", 0, 1);
    }

    private static void theSampledMessageIsReplaced() {
        DUE.sentence("The message goes to the PORT: SAMPLING: in place of the one before");
        TwinNetwork x = Made.fromZeroToThree(20, 0);
        for (int i = 0; i < 6; i++) {
            x.write(0, 1 + i, i);
        }
        x.tick(16);
        for (int i = 0; i < 6; i++) {
            int size = 1 + i;
            x.tick(1);
            DUE.answers("read(3, 0) of message " + i, size, () -> x.read(3, 0));
            DUE.is("port(3, 0)", x.port(3, 0), 1);
            x.tick(15);
        }
        DUE.drops("with six sampling messages", x, 9, 6);
    }

    private static void fourMessagesAreQueued() {
        DUE.sentence("QUEUING: behind the others, of which there are at most four, else 11.");
        TwinNetwork x = Made.fromZeroToThree(20, Made.QUEUING);
        for (int i = 0; i < 6; i++) {
            x.write(0, 1 + i, i);
        }
        x.tick(65);
        DUE.drops("with four messages", x, 9, 4);
        DUE.is("port(3, 0) with four messages", x.port(3, 0), 4);
        x.tick(16);
        DUE.drops("with five messages", x, 9, 5, 11, 1);
        x.tick(16);
        DUE.drops("with six messages", x, 9, 6, 11, 2);
        DUE.is("port(3, 0) with six messages", x.port(3, 0), 4);
        DUE.answers("read(3, 0)", 1, () -> x.read(3, 0));
        x.write(0, 10, 9);
        x.write(0, 11, 9);
        x.tick(100);
        DUE.drops("with room for one again", x, 9, 8, 11, 3);
        for (int size : new int[] {2, 3, 4, 10, 0}) {
            DUE.answers("read(3, 0)", size, () -> x.read(3, 0));
        }
    }

    /** End system 0 reads, 3 doesn't. */
    private static void eachPortHasItsOwnRoom() {
        DUE.sentence("QUEUING: behind the others, of which there are at most four, else 11.");
        TwinNetwork x = Made.withLink(0, 1, 4, 64, 9, 4 * 20 + 2);
        for (int i = 0; i < 6; i++) {
            x.write(0, 1, i);
            x.tick(40);
            DUE.answers("read(0, 0)", 1, () -> x.read(0, 0));
        }
        DUE.is("port(0, 0)", x.port(0, 0), 0);
        DUE.is("port(3, 0)", x.port(3, 0), 4);
        DUE.drops("with one port full", x, 9, 12, 11, 2);
    }
}
