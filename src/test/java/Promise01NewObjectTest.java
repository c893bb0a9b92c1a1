/** Promise 1: no links; time 0. */
public final class Promise01NewObjectTest {
    public static void main(String[] args) {
        Due due = new Due("promise 1");
        TwinNetwork x = new TwinNetwork();
        due.is("NONE", TwinNetwork.NONE, -1);
        due.is("tick(0)", x.tick(0), 0);
        for (int l = 0; l < 8; l++) {
            int link = l;
            due.is("fragments(" + l + ")", x.fragments(l), -1);
            due.is("account(0, " + l + ")", x.account(0, l), -1);
            due.refusesArgument("write(" + l + ", 1, 0)", () -> x.write(link, 1, 0));
            for (int e = 0; e < 4; e++) {
                int system = e;
                due.is("port(" + e + ", " + l + ")", x.port(e, l), -1);
                due.is("bound(" + l + ", " + e + ")", x.bound(l, e), -1);
                due.refusesArgument("read(" + e + ", " + l + ")", () -> x.read(system, link));
            }
        }
        for (int network = 0; network < 2; network++) {
            for (int line = 0; line < 12; line++) {
                due.is("onLine(" + network + ", " + line + ", -1)", x.onLine(network, line, -1), -1);
                due.is("waiting(" + network + ", " + line + ", 0)", x.waiting(network, line, 0), 0);
            }
        }
        for (int reason = 0; reason < 12; reason++) {
            due.is("dropped(" + reason + ")", x.dropped(reason), 0);
        }
        due.is("byteOf(0)", x.byteOf(0), -1);
        anObjectIsItsOwn(due);
        due.end();
    }

    private static void anObjectIsItsOwn(Due due) {
        TwinNetwork used = new TwinNetwork();
        used.link(0, 0, 4, 64, 2, 4);
        used.write(0, 5, 1);
        used.tick(100);
        TwinNetwork x = new TwinNetwork();
        due.is("tick(0) of another object", x.tick(0), 0);
        due.is("fragments(0) of another object", x.fragments(0), -1);
        due.is("port(1, 0) of another object", x.port(1, 0), -1);
        due.is("dropped(9) of another object", x.dropped(9), 0);
    }
}
