/** Promise 12: how many fragments of a link wait. */
public final class Promise12FragmentsTest {
    private static final Due DUE = new Due("promise 12");

    public static void main(String[] args) {
        fragmentsAreCountedDown();
        otherLinksHaveNone();
        DUE.end();
    }

    private static void fragmentsAreCountedDown() {
        DUE.sentence("How many fragments of a link wait");
        TwinNetwork x = Made.withLink(7, 0, 4, 64, 2, 6);
        DUE.is("fragments(7) at first", x.fragments(7), 0);
        x.write(7, 184, 1);
        DUE.is("fragments(7) with a message", x.fragments(7), 8);
        DUE.refusesState("write(7, 1, 1)", () -> x.write(7, 1, 1));
        DUE.is("fragments(7) after a refused one", x.fragments(7), 8);
        for (int i = 7; i >= 0; i--) {
            x.tick(1);
            DUE.is("fragments(7) at " + x.tick(0), x.fragments(7), i);
            x.tick(15);
            DUE.is("fragments(7) at " + x.tick(0), x.fragments(7), i);
        }
        x.tick(16);
        DUE.is("fragments(7) when all are gone", x.fragments(7), 0);
        x.write(7, 30, 1);
        DUE.is("fragments(7) with another message", x.fragments(7), 2);
    }

    private static void otherLinksHaveNone() {
        DUE.sentence("NONE if it isn't set up");
        TwinNetwork x = Made.withLink(3, 0, 4, 64, 2, 6);
        x.link(0, 0, 4, 64, 2, 6);
        x.write(3, 1, 1);
        for (int l = -1; l < 9; l++) {
            DUE.is("fragments(" + l + ")", x.fragments(l), l == 3 ? 1 : l == 0 ? 0 : -1);
        }
        for (int l : new int[] {32, 35, Integer.MIN_VALUE, Integer.MAX_VALUE}) {
            DUE.is("fragments(" + l + ")", x.fragments(l), -1);
        }
    }
}
