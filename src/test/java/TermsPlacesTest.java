/** Terms: end systems, networks, switches, lines, and the paths of links. */
public final class TermsPlacesTest {
    private static final int[] BEYOND_SYSTEMS = {-1, 4, 32, Integer.MIN_VALUE, Integer.MAX_VALUE};
    private static final int[] BEYOND_NETWORKS = {-1, 2, 32, Integer.MIN_VALUE, Integer.MAX_VALUE};
    private static final int[] BEYOND_LINES = {-1, 12, 32, Integer.MIN_VALUE, Integer.MAX_VALUE};

    /** The lines from an end system to another, in the order in which a frame goes over them. */
    private static final int[][][] WAYS = {
        {{}, {0, 8, 5}, {0, 8, 9, 6}, {0, 7}},
        {{1, 10, 4}, {}, {1, 9, 6}, {1, 10, 7}},
        {{2, 11, 10, 4}, {2, 11, 5}, {}, {2, 11, 10, 7}},
        {{3, 4}, {3, 8, 5}, {3, 8, 9, 6}, {}}};

    private static final Due DUE = new Due("terms: places");

    public static void main(String[] args) {
        systemsAreFour();
        networksAreTwo();
        linesAreTwelve();
        systemThreeIsAtSwitchZero();
        linesGoAsTold();
        pathsGoToTheTargetsAlone();
        DUE.end();
    }

    private static void systemsAreFour() {
        DUE.sentence("END SYSTEMS 0 .. 3");
        for (int e = 0; e < 4; e++) {
            TwinNetwork x = new TwinNetwork();
            int system = e;
            int other = (e + 1) % 4;
            DUE.passes("link from " + e, () -> x.link(0, system, 4, 64, 1 << other, 6));
            DUE.passes("link to " + e, () -> x.link(1, other, 4, 64, 1 << system, 6));
            DUE.isTrue("babble of " + e, x.babble(0, e, 0, 64, 0));
            DUE.answers("read at " + e, 0, () -> x.read(system, 1));
            DUE.is("port at " + e, x.port(e, 1), 0);
            DUE.isTrue("bound to " + e, x.bound(1, e) > 0);
        }
        TwinNetwork x = Made.withLink(1, 0, 4, 64, 14, 6);
        for (int e : BEYOND_SYSTEMS) {
            DUE.refusesArgument("link from " + e, () -> x.link(0, e, 4, 64, 2, 6));
            DUE.isFalse("babble of " + e, x.babble(0, e, 1, 64, 0));
            DUE.refusesArgument("read at " + e, () -> x.read(e, 1));
            DUE.is("port at " + e, x.port(e, 1), -1);
            DUE.is("bound to " + e, x.bound(1, e), -1);
        }
        DUE.refusesArgument("link to end system 4", () -> x.link(0, 0, 4, 64, 16, 6));
    }

    private static void networksAreTwo() {
        DUE.sentence("NETWORKS 0 and 1");
        TwinNetwork x = Made.withLink(0, 0, 4, 64, 8, 6);
        for (int network = 0; network < 2; network++) {
            DUE.isTrue("babble in network " + network, x.babble(network, 0, 0, 64, 0));
            DUE.is("waiting in network " + network, x.waiting(network, 0, 0), 1);
            DUE.is("account in network " + network, x.account(network, 0), 5120);
            DUE.isTrue("harm in network " + network, x.harm(network, 0, 0, 1));
        }
        x.tick(1);
        for (int network = 0; network < 2; network++) {
            DUE.is("onLine in network " + network, x.onLine(network, 0, -1), 64);
        }
        for (int network : BEYOND_NETWORKS) {
            DUE.isFalse("babble in network " + network, x.babble(network, 0, 0, 64, 0));
            DUE.is("waiting in network " + network, x.waiting(network, 0, 0), -1);
            DUE.is("account in network " + network, x.account(network, 0), -1);
            DUE.isFalse("harm in network " + network, x.harm(network, 0, 0, 1));
            DUE.is("onLine in network " + network, x.onLine(network, 0, -1), -1);
        }
    }

    private static void linesAreTwelve() {
        DUE.sentence("Each network has LINES, 12 in number");
        TwinNetwork x = new TwinNetwork();
        for (int line = 0; line < 12; line++) {
            DUE.is("waiting for line " + line, x.waiting(1, line, 0), 0);
            DUE.isTrue("harm of line " + line, x.harm(0, line, 0, 0));
        }
        for (int e = 0; e < 4; e++) {
            x.babble(0, e, 0, 64, 0);
            x.babble(1, e, 0, 64, 0);
        }
        x.tick(1);
        for (int line : BEYOND_LINES) {
            DUE.is("waiting for line " + line, x.waiting(0, line, 0), -1);
            DUE.is("waiting for line " + line + " of network 1", x.waiting(1, line, 0), -1);
            DUE.isFalse("harm of line " + line, x.harm(0, line, 0, 0));
            DUE.isFalse("harm of line " + line + " of network 1", x.harm(1, line, 0, 0));
            DUE.is("onLine of line " + line, x.onLine(0, line, -1), -1);
            DUE.is("onLine of line " + line + " of network 1", x.onLine(1, line, -1), -1);
        }
    }

    /** Between 0 and 3 there is no line but theirs; 3 goes to 1 by line 8, as 0 does. */
    private static void systemThreeIsAtSwitchZero() {
        DUE.sentence("end system e is at switch e modulo 3");
        TwinNetwork x = Made.withLink(0, 3, 4, 64, 7, 6);
        DUE.is("bound(0, 0) from 3", x.bound(0, 0), 16);
        x.write(0, 1, 1);
        x.tick(9);
        for (int line = 0; line < 12; line++) {
            DUE.is("onLine(0, " + line + ", -1) at 9", x.onLine(0, line, -1), line == 4 || line == 8 ? 64 : -1);
        }
        TwinNetwork back = Made.withLink(0, 1, 4, 64, 8, 6);
        back.write(0, 1, 1);
        back.tick(17);
        DUE.is("onLine(0, 7, -1) from 1 to 3", back.onLine(0, 7, -1), 64);
    }

    private static void linesGoAsTold() {
        DUE.sentence("0 .. 3 from end system to its switch, 4 .. 7 from the switch to end system (line less 4), "
                + "8 from switch 0 to 1, 9 from 1 to 2, 10 from 1 to 0, 11 from 2 to 1");
        for (int source = 0; source < 4; source++) {
            for (int target = 0; target < 4; target++) {
                if (target != source) {
                    frameGoesBy(source, target, WAYS[source][target]);
                }
            }
        }
    }

    private static void frameGoesBy(int source, int target, int[] way) {
        String call = "from " + source + " to " + target + ": ";
        TwinNetwork x = Made.withLink(0, source, 4, 64, 1 << target, 4);
        DUE.is(call + "bound(0, " + target + ")", x.bound(0, target), 8 * way.length);
        x.write(0, 1, 1);
        x.tick(1);
        for (int due : way) {
            for (int network = 0; network < 2; network++) {
                for (int line = 0; line < 12; line++) {
                    DUE.is(call + "onLine(" + network + ", " + line + ", -1) at " + x.tick(0),
                            x.onLine(network, line, -1), line == due ? 64 : -1);
                }
            }
            DUE.is(call + "port(" + target + ", 0) before it came", x.port(target, 0), -1);
            x.tick(8);
        }
        DUE.is(call + "port(" + target + ", 0) when it came", x.port(target, 0), 1);
        DUE.drops(call + "at last", x, 9, 1);
    }

    /** From end system 1 to all others: by line 10 to switch 0 and from there to 0 and 3, by line 9 to 2. */
    private static void pathsGoToTheTargetsAlone() {
        DUE.sentence("A link's PATHS go from its source's line 0 .. 3 by the fewest lines to its targets.");
        int[][] all = {{1}, {9, 10}, {4, 6, 7}};
        linesAfterEachHop(1, 13, all);
        int[][] without2 = {{0}, {7, 8}, {5}, {}};
        linesAfterEachHop(0, 10, without2);
        int[][] without1 = {{2}, {11}, {10}, {4, 7}};
        linesAfterEachHop(2, 9, without1);
    }

    private static void linesAfterEachHop(int source, int targets, int[][] hops) {
        TwinNetwork x = Made.withLink(0, source, 4, 64, targets, 4);
        x.write(0, 1, 1);
        x.tick(1);
        for (int[] hop : hops) {
            for (int line = 0; line < 12; line++) {
                boolean isThere = false;
                for (int due : hop) {
                    isThere |= line == due;
                }
                DUE.is("onLine(1, " + line + ", -1) from " + source + " at " + x.tick(0),
                        x.onLine(1, line, -1), isThere ? 64 : -1);
            }
            x.tick(8);
        }
        for (int e = 0; e < 4; e++) {
            DUE.isTrue("port(" + e + ", 0) from " + source, x.port(e, 0) >= 1 == ((targets >> e & 1) != 0));
        }
    }
}
