/**
 * Every call with every choice of small, great and far arguments, on objects in full use: the class answers as the
 * plain model does, and nothing but the document's exceptions reaches its caller.
 */
public final class WrongInputsTest {
    private static final int CALLS_OF_AN_OBJECT = 400;
    private static final int[] FAR = {Integer.MIN_VALUE, -1, 0, 1, Integer.MAX_VALUE};
    private static final int[] SYSTEMS = {Integer.MIN_VALUE, -1, 0, 3, 4, Integer.MAX_VALUE};
    private static final int[] LINKS = {Integer.MIN_VALUE, -1, 0, 6, 7, 8, Integer.MAX_VALUE};
    private static final int[] NETWORKS = {Integer.MIN_VALUE, -1, 0, 1, 2, Integer.MAX_VALUE};
    private static final int[] LINES = {Integer.MIN_VALUE, -1, 0, 3, 4, 11, 12, Integer.MAX_VALUE};
    private static final int[] PLACES = {Integer.MIN_VALUE, -2, -1, 0, 63, 64, 127, 128, 199, 200, Integer.MAX_VALUE};
    private static final int[] SIZES = {Integer.MIN_VALUE, -1, 0, 1, 17, 18, 81, 82, 184, 185, 400, 401,
        Integer.MAX_VALUE};
    private static final int[] GAPS = {Integer.MIN_VALUE, 3, 4, 9, 10, Integer.MAX_VALUE};
    private static final int[] MOSTS = {Integer.MIN_VALUE, 63, 64, 128, 129, Integer.MAX_VALUE};
    private static final int[] TARGETS = {Integer.MIN_VALUE, -1, 0, 1, 7, 8, 14, 15, 16, Integer.MAX_VALUE};
    private static final int[] FLAGS = {Integer.MIN_VALUE, -1, 0, 3, 4, 4003, 4004, Integer.MAX_VALUE};
    private static final int[] FRAMES = {Integer.MIN_VALUE, -1, 0, 63, 64, 200, 201, Integer.MAX_VALUE};

    private final Due due = new Due("wrong inputs");
    private TwinNetwork x;
    private PlainModel m;
    private int calls = CALLS_OF_AN_OBJECT;

    public static void main(String[] args) {
        WrongInputsTest test = new WrongInputsTest();
        test.linkCalls();
        test.writeAndReadCalls();
        test.harmAndBabbleCalls();
        test.lookingCalls();
        test.due.end();
    }

    /** Counts a call; after enough of them the next one is made on new objects. */
    private void next() {
        if (++calls < CALLS_OF_AN_OBJECT) {
            return;
        }
        calls = 0;
        x = new TwinNetwork();
        m = new PlainModel();
        for (int l = 0; l < 7; l++) {
            x.link(l, l % 4, 4, 64 + 10 * l, 15 - (1 << l % 4), 4 * 20 + l % 4);
            m.link(l, l % 4, 4, 64 + 10 * l, 15 - (1 << l % 4), 4 * 20 + l % 4);
            x.write(l, 15, l);
            m.write(l, 15, l);
        }
        due.is("tick(20)", x.tick(20), m.tick(20));
    }

    private void linkCalls() {
        for (int l : LINKS) {
            for (int source : SYSTEMS) {
                for (int gap : GAPS) {
                    for (int most : MOSTS) {
                        linkCalls(l, source, gap, most);
                    }
                }
            }
        }
    }

    private void linkCalls(int l, int source, int gap, int most) {
        for (int targets : TARGETS) {
            for (int flags : FLAGS) {
                linkCall(l, source, gap, most, targets, flags);
            }
        }
    }

    private void linkCall(int l, int source, int gap, int most, int targets, int flags) {
        next();
        due.is("link(" + l + ", " + source + ", " + gap + ", " + most + ", " + targets + ", " + flags + ")",
                Due.outcome(() -> { x.link(l, source, gap, most, targets, flags); return 0; }),
                Due.outcome(() -> { m.link(l, source, gap, most, targets, flags); return 0; }));
    }

    private void writeAndReadCalls() {
        for (int l : LINKS) {
            for (int size : SIZES) {
                for (int seed : FAR) {
                    next();
                    due.is("write(" + l + ", " + size + ", " + seed + ")",
                            Due.outcome(() -> x.write(l, size, seed)), Due.outcome(() -> m.write(l, size, seed)));
                }
            }
            for (int n : new int[] {Integer.MIN_VALUE, -1, 0, 1, 30, 2000, 2001, Integer.MAX_VALUE}) {
                next();
                due.is("tick(" + n + ")", Due.outcome(() -> x.tick(n)), Due.outcome(() -> m.tick(n)));
            }
            for (int e : SYSTEMS) {
                next();
                due.is("read(" + e + ", " + l + ")", Due.outcome(() -> x.read(e, l)), Due.outcome(() -> m.read(e, l)));
                for (int k : PLACES) {
                    next();
                    due.is("byteOf(" + k + ")", Due.outcome(() -> x.byteOf(k)), Due.outcome(() -> m.byteOf(k)));
                }
            }
        }
    }

    private void harmAndBabbleCalls() {
        for (int network : NETWORKS) {
            for (int line : LINES) {
                for (int place : PLACES) {
                    for (int mask : new int[] {Integer.MIN_VALUE, -1, 0, 1, 255, 256, Integer.MAX_VALUE}) {
                        next();
                        due.is("harm(" + network + ", " + line + ", " + place + ", " + mask + ")",
                                Due.outcomeOf(() -> x.harm(network, line, place, mask)),
                                Due.outcomeOf(() -> m.harm(network, line, place, mask)));
                    }
                }
            }
            for (int e : SYSTEMS) {
                for (int l : LINKS) {
                    babbleCalls(network, e, l);
                    next();
                    due.is("tick(9)", Due.outcome(() -> x.tick(9)), Due.outcome(() -> m.tick(9)));
                }
            }
        }
    }

    private void babbleCalls(int network, int e, int l) {
        for (int size : FRAMES) {
            for (int n : FAR) {
                next();
                due.is("babble(" + network + ", " + e + ", " + l + ", " + size + ", " + n + ")",
                        Due.outcomeOf(() -> x.babble(network, e, l, size, n)),
                        Due.outcomeOf(() -> m.babble(network, e, l, size, n)));
            }
        }
    }

    private void lookingCalls() {
        for (int network : NETWORKS) {
            for (int line : LINES) {
                for (int k : PLACES) {
                    next();
                    due.is("onLine(" + network + ", " + line + ", " + k + ")",
                            Due.outcome(() -> x.onLine(network, line, k)), m.onLine(network, line, k));
                    next();
                    due.is("waiting(" + network + ", " + line + ", " + k + ")",
                            Due.outcome(() -> x.waiting(network, line, k)), m.waiting(network, line, k));
                }
            }
        }
        for (int l : LINKS) {
            next();
            due.is("fragments(" + l + ")", Due.outcome(() -> x.fragments(l)), m.fragments(l));
            for (int e : SYSTEMS) {
                next();
                due.is("port(" + e + ", " + l + ")", Due.outcome(() -> x.port(e, l)), m.port(e, l));
                due.is("bound(" + l + ", " + e + ")", Due.outcome(() -> x.bound(l, e)), m.bound(l, e));
            }
            for (int network : NETWORKS) {
                next();
                due.is("account(" + network + ", " + l + ")",
                        Due.outcome(() -> x.account(network, l)), m.account(network, l));
            }
        }
        for (int reason : new int[] {Integer.MIN_VALUE, -1, 0, 1, 11, 12, Integer.MAX_VALUE}) {
            next();
            due.is("dropped(" + reason + ")", Due.outcome(() -> x.dropped(reason)), m.dropped(reason));
        }
    }
}
