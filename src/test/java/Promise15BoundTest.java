/** Promise 15: the BOUND of a link to a target. */
public final class Promise15BoundTest {
    private static final Due DUE = new Due("promise 15");

    public static void main(String[] args) {
        thePathsAreTheShortest();
        framesTakeWholeTicks();
        allLinksOnALineCount();
        otherTargetsAreNotThere();
        DUE.end();
    }

    /** With one link of 64 bytes a line counts 8 ticks. */
    private static void thePathsAreTheShortest() {
        int[][] lines = {{0, 3, 4, 2}, {3, 0, 3, 3}, {4, 3, 0, 4}, {2, 3, 4, 0}};
        for (int source = 0; source < 4; source++) {
            TwinNetwork x = new TwinNetwork();
            x.link(0, source, 4, 64, 15 - (1 << source), 4);
            for (int e = 0; e < 4; e++) {
                int due = e == source ? -1 : 8 * lines[source][e];
                DUE.is("bound(0, " + e + ") from " + source, x.bound(0, e), due);
            }
        }
    }

    private static void framesTakeWholeTicks() {
        int[][] ticks = {{64, 8}, {65, 9}, {71, 9}, {72, 9}, {73, 10}, {127, 16}, {128, 16}};
        for (int[] a : ticks) {
            TwinNetwork x = new TwinNetwork();
            x.link(0, 0, 4, a[0], 8, 4);
            DUE.is("bound(0, 3) with MOST " + a[0], x.bound(0, 3), 2 * a[1]);
        }
    }

    /** From 0 to 1 and 2 (lines 0, 8, 5, 9, 6), from 3 to 2 (3, 8, 9, 6), from 1 to 2 (1, 9, 6), from 2 to 0. */
    private static void allLinksOnALineCount() {
        TwinNetwork x = new TwinNetwork();
        x.link(0, 0, 4, 64, 6, 4);
        DUE.is("bound(0, 2) alone", x.bound(0, 2), 32);
        x.link(3, 3, 5, 128, 4, 5);
        x.link(5, 1, 6, 72, 4, 7);
        x.link(7, 2, 9, 100, 1, 6);
        DUE.is("bound(0, 1)", x.bound(0, 1), 8 + 24 + 8);
        DUE.is("bound(0, 2)", x.bound(0, 2), 8 + 24 + 33 + 33);
        DUE.is("bound(3, 2)", x.bound(3, 2), 16 + 24 + 33 + 33);
        DUE.is("bound(5, 2)", x.bound(5, 2), 9 + 33 + 33);
        DUE.is("bound(7, 0)", x.bound(7, 0), 4 * 13);
        x.write(0, 1, 1);
        x.tick(100);
        DUE.is("bound(0, 1) later", x.bound(0, 1), 8 + 24 + 8);
    }

    private static void otherTargetsAreNotThere() {
        TwinNetwork x = new TwinNetwork();
        x.link(0, 0, 4, 64, 2, 4);
        int[][] none = {{-1, 1}, {8, 1}, {1, 1}, {0, 0}, {0, 2}, {0, 3}, {0, 4}, {0, -1},
            {Integer.MAX_VALUE, 1}, {0, Integer.MIN_VALUE}, {0, 33}};
        for (int[] a : none) {
            DUE.is("bound(" + a[0] + ", " + a[1] + ")", x.bound(a[0], a[1]), -1);
        }
    }
}
