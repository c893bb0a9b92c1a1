/** Promise 12: how many fragments of a link wait. */
public final class Promise12FragmentsTest {
    public static void main(String[] args) {
        Due due = new Due("promise 12");
        TwinNetwork x = new TwinNetwork();
        x.link(7, 0, 4, 64, 2, 6);
        due.is("fragments(7)", x.fragments(7), 0);
        for (int l = -1; l < 9; l++) {
            due.is("fragments(" + l + ")", x.fragments(l), l == 7 ? 0 : -1);
        }
        due.is("fragments(least)", x.fragments(Integer.MIN_VALUE), -1);
        due.is("fragments(greatest)", x.fragments(Integer.MAX_VALUE), -1);
        x.write(7, 184, 1);
        due.is("fragments(7) with a message", x.fragments(7), 8);
        due.refusesState("write(7, 1, 1)", () -> x.write(7, 1, 1));
        due.is("fragments(7) after a refused one", x.fragments(7), 8);
        for (int i = 7; i >= 0; i--) {
            x.tick(1);
            due.is("fragments(7) at " + x.tick(0), x.fragments(7), i);
            x.tick(15);
            due.is("fragments(7) at " + x.tick(0), x.fragments(7), i);
        }
        due.end();
    }
}
