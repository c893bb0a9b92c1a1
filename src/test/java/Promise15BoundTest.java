/** Promise 15: the BOUND of a link to a target. (The lines of each path: TermsPlacesTest.) */
public final class Promise15BoundTest {
    private static final Due DUE = new Due("promise 15");

    public static void main(String[] args) {
        framesTakeWholeTicks();
        allLinksOnALineCount();
        eightLinksCount();
        otherTargetsAreNotThere();
        DUE.end();
    }

    private static void framesTakeWholeTicks() {
        DUE.sentence("the sum of the ticks that the greatest frames of all links whose paths have that line take");
        int[][] ticks = {{64, 8}, {65, 9}, {71, 9}, {72, 9}, {73, 10}, {120, 15}, {121, 16}, {127, 16}, {128, 16}};
        for (int[] a : ticks) {
            for (int flags = 4; flags < 8; flags++) {
                TwinNetwork x = Made.withLink(0, 0, 4, a[0], 8, flags);
                DUE.is("bound(0, 3) with MOST " + a[0], x.bound(0, 3), 2 * a[1]);
            }
        }
    }

    /** From 0 to 1 and 2 (lines 0, 8, 5, 9, 6), from 3 to 2 (3, 8, 9, 6), from 1 to 2 (1, 9, 6), from 2 to 0. */
    private static void allLinksOnALineCount() {
        DUE.sentence("over the lines of its path, the sum of the ticks that the greatest frames of all links");
        TwinNetwork x = Made.withLink(0, 0, 4, 64, 6, 4);
        DUE.is("bound(0, 2) alone", x.bound(0, 2), 32);
        x.link(3, 3, 5, 128, 4, 5);
        x.link(5, 1, 6, 72, 4, 7);
        x.link(7, 2, 9, 100, 1, 6);
        DUE.is("bound(0, 1)", x.bound(0, 1), 8 + 24 + 8);
        DUE.is("bound(0, 2)", x.bound(0, 2), 8 + 24 + 33 + 33);
        DUE.is("bound(3, 2)", x.bound(3, 2), 16 + 24 + 33 + 33);
        DUE.is("bound(5, 2)", x.bound(5, 2), 9 + 33 + 33);
        DUE.is("bound(7, 0)", x.bound(7, 0), 4 * 13);
        x.write(0, 1, 1);
        x.tick(100);
        DUE.is("bound(0, 1) later", x.bound(0, 1), 8 + 24 + 8);
    }

    private static void eightLinksCount() {
        DUE.sentence("the greatest frames of all links whose paths have that line");
        TwinNetwork x = new TwinNetwork();
        for (int l = 0; l < 8; l++) {
            x.link(l, 0, 4, 128, 4, 4);
        }
        for (int l = 0; l < 8; l++) {
            DUE.is("bound(" + l + ", 2)", x.bound(l, 2), 4 * 8 * 16);
        }
    }

    private static void otherTargetsAreNotThere() {
        DUE.sentence("NONE if there is no such target");
        TwinNetwork x = Made.withLink(0, 0, 4, 64, 2, 4);
        int[][] none = {{-1, 1}, {8, 1}, {1, 1}, {7, 1}, {0, 0}, {0, 2}, {0, 3}, {0, 4}, {0, -1},
            {Integer.MAX_VALUE, 1}, {0, Integer.MIN_VALUE}, {0, 33}, {32, 1}};
        for (int[] a : none) {
            DUE.is("bound(" + a[0] + ", " + a[1] + ")", x.bound(a[0], a[1]), -1);
        }
        DUE.is("bound(0, 1)", x.bound(0, 1), 24);
    }
}
