/** Objects that many tests begin with. */
final class Made {
    static final int HIGH = 1;
    static final int QUEUING = 2;

    private Made() {
    }

    static TwinNetwork withLink(int l, int source, int gap, int most, int targets, int flags) {
        TwinNetwork x = new TwinNetwork();
        x.link(l, source, gap, most, targets, flags);
        return x;
    }

    /** Link 0 from end system 0 to 3, by lines 0 and 7: a frame of 64 bytes comes 16 ticks after it was taken. */
    static TwinNetwork fromZeroToThree(int skew, int more) {
        return withLink(0, 0, 4, 64, 8, 4 * skew + more);
    }

    /** Babbles a frame of 64 bytes of link 0 at end system 0, and waits until it has come. */
    static void babbleAndWait(TwinNetwork x, int network, int n) {
        x.babble(network, 0, 0, 64, n);
        x.tick(17);
    }
}
