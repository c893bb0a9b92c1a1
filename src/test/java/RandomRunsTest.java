import java.util.Random;

/** Runs of calls drawn from fixed seeds: the class must answer as the plain model does. */
public final class RandomRunsTest {
    private static final int RUNS = 100;
    private static final int CALLS = 512;

    private final Due due = new Due("random runs");
    private final Random random;
    private final int run;
    private final TwinNetwork x = new TwinNetwork();
    private final PlainModel m = new PlainModel();
    private final int ownLinks;
    private final int longestTick;

    private RandomRunsTest(int run) {
        this.run = run;
        random = new Random(run);
        ownLinks = 1 + random.nextInt(8);
        longestTick = new int[] {3, 20, 60, 300}[random.nextInt(4)];
    }

    public static void main(String[] args) {
        Due total = new Due("random runs");
        int[] seen = new int[12];
        for (int run = 0; run < RUNS; run++) {
            RandomRunsTest test = new RandomRunsTest(run);
            for (int call = 0; call < CALLS; call++) {
                test.callOne(call);
            }
            test.due.end();
            for (int reason = 0; reason < 12; reason++) {
                seen[reason] += test.m.dropped(reason) > 0 ? 1 : 0;
            }
        }
        for (int reason = 0; reason < 12; reason++) {
            // Frames are checked before their form is looked at, so nothing is ever dropped for reason 7.
            total.is("a run drops for reason " + reason, seen[reason] > 0 ? 1 : 0, reason == 7 ? 0 : 1);
        }
        total.end();
    }

    /** Mostly from low to high, now and then beyond or far away. */
    private int in(int low, int high) {
        switch (random.nextInt(60)) {
            case 0: return low - 1;
            case 1: return high + 1;
            case 2: return random.nextInt();
            default: return low + random.nextInt(high - low + 1);
        }
    }

    private int someLink() {
        return random.nextInt(20) == 0 ? in(0, 7) : random.nextInt(ownLinks);
    }

    private void callOne(int call) {
        String told = "run " + run + ", call " + call + ": ";
        switch (call < 4 ? 0 : random.nextInt(16)) {
            case 0: linkOne(told); break;
            case 1:
            case 2:
            case 3:
            case 4: writeOne(told); break;
            case 5: babbleOne(told); break;
            case 6: harmOne(told); break;
            case 7:
            case 8:
            case 9:
            case 10: tickSome(told); break;
            case 11: readOne(told); break;
            default: lookAround(told);
        }
    }

    private void linkOne(String told) {
        int l = someLink();
        int source = in(0, 3);
        int gap = random.nextInt(3) == 0 ? in(4, 9) : 4;
        int most = in(64, 128);
        int targets = in(1, 15) & (random.nextInt(10) == 0 ? -1 : ~(1 << source));
        int flags = 4 * (random.nextInt(3) == 0 ? in(1, 1000) : in(1, 40)) + random.nextInt(4);
        due.is(told + "link(" + l + ", " + source + ", " + gap + ", " + most + ", " + targets + ", " + flags + ")",
                Due.outcome(() -> { x.link(l, source, gap, most, targets, flags); return 0; }),
                Due.outcome(() -> { m.link(l, source, gap, most, targets, flags); return 0; }));
    }

    private void writeOne(String told) {
        int l = someLink();
        int size = random.nextInt(4) == 0 ? in(1, 400) : in(1, 90);
        int seed = random.nextInt();
        due.is(told + "write(" + l + ", " + size + ", " + seed + ")",
                Due.outcome(() -> x.write(l, size, seed)), Due.outcome(() -> m.write(l, size, seed)));
    }

    private void babbleOne(String told) {
        int network = in(0, 1);
        int e = in(0, 3);
        int l = someLink();
        int size = random.nextInt(2) == 0 ? in(64, 90) : in(64, 200);
        int n = random.nextInt(2) == 0 ? random.nextInt(6) : random.nextInt();
        int times = random.nextInt(8) == 0 ? 20 : 1;
        for (int i = 0; i < times; i++) {
            due.is(told + "babble(" + network + ", " + e + ", " + l + ", " + size + ", " + n + ")",
                    Due.outcomeOf(() -> x.babble(network, e, l, size, n)),
                    Due.outcomeOf(() -> m.babble(network, e, l, size, n)));
        }
    }

    private void harmOne(String told) {
        int network = in(0, 1);
        int line = in(0, 11);
        int place = random.nextInt();
        int mask = random.nextInt(2) * in(0, 255);
        due.is(told + "harm(" + network + ", " + line + ", " + place + ", " + mask + ")",
                Due.outcomeOf(() -> x.harm(network, line, place, mask)),
                Due.outcomeOf(() -> m.harm(network, line, place, mask)));
    }

    private void tickSome(String told) {
        int n = random.nextInt(40) == 0 ? in(0, 2000) : random.nextInt(longestTick + 1);
        due.is(told + "tick(" + n + ")", Due.outcome(() -> x.tick(n)), Due.outcome(() -> m.tick(n)));
    }

    private void readOne(String told) {
        int e = in(0, 3);
        int l = someLink();
        due.is(told + "read(" + e + ", " + l + ")", Due.outcome(() -> x.read(e, l)), Due.outcome(() -> m.read(e, l)));
        for (int k = -2; k < 402; k++) {
            due.is(told + "byteOf(" + k + ")", x.byteOf(k), m.byteOf(k));
        }
    }

    private void lookAround(String told) {
        for (int l = -1; l < 9; l++) {
            due.is(told + "fragments(" + l + ")", x.fragments(l), m.fragments(l));
            for (int network = -1; network < 3; network++) {
                due.is(told + "account(" + network + ", " + l + ")", x.account(network, l), m.account(network, l));
            }
            for (int e = -1; e < 5; e++) {
                due.is(told + "port(" + e + ", " + l + ")", x.port(e, l), m.port(e, l));
                due.is(told + "bound(" + l + ", " + e + ")", x.bound(l, e), m.bound(l, e));
            }
        }
        for (int reason = -1; reason < 13; reason++) {
            due.is(told + "dropped(" + reason + ")", x.dropped(reason), m.dropped(reason));
        }
        for (int network = -1; network < 3; network++) {
            for (int line = -1; line < 13; line++) {
                lookAtLine(told, network, line);
            }
        }
    }

    private void lookAtLine(String told, int network, int line) {
        for (int what = -1; what < 3; what++) {
            due.is(told + "waiting(" + network + ", " + line + ", " + what + ")",
                    x.waiting(network, line, what), m.waiting(network, line, what));
        }
        for (int k = -2; k < 202; k++) {
            due.is(told + "onLine(" + network + ", " + line + ", " + k + ")",
                    x.onLine(network, line, k), m.onLine(network, line, k));
        }
    }
}
