/** Promise 1: no links; time 0. */
public final class Promise01NewObjectTest {
    private static final Due DUE = new Due("promise 1");

    public static void main(String[] args) {
        noneIsMinusOne();
        thereAreNoLinks();
        theTimeIsZero();
        nothingIsUnderWay();
        anObjectIsItsOwn();
        DUE.end();
    }

    private static void noneIsMinusOne() {
        DUE.sentence("`NONE = -1`: Nothing there.");
        DUE.is("NONE", TwinNetwork.NONE, -1);
    }

    private static void thereAreNoLinks() {
        DUE.sentence("No links");
        TwinNetwork x = new TwinNetwork();
        for (int l = 0; l < 8; l++) {
            int link = l;
            DUE.is("fragments(" + l + ")", x.fragments(l), -1);
            DUE.is("account(0, " + l + ")", x.account(0, l), -1);
            DUE.refusesArgument("write(" + l + ", 1, 0)", () -> x.write(link, 1, 0));
            for (int e = 0; e < 4; e++) {
                int system = e;
                DUE.is("port(" + e + ", " + l + ")", x.port(e, l), -1);
                DUE.is("bound(" + l + ", " + e + ")", x.bound(l, e), -1);
                DUE.refusesArgument("read(" + e + ", " + l + ")", () -> x.read(system, link));
            }
        }
    }

    private static void theTimeIsZero() {
        DUE.sentence("time 0");
        DUE.is("tick(0)", new TwinNetwork().tick(0), 0);
        DUE.is("tick(1)", new TwinNetwork().tick(1), 1);
    }

    private static void nothingIsUnderWay() {
        DUE.sentence("No links; time 0.");
        TwinNetwork x = new TwinNetwork();
        for (int network = 0; network < 2; network++) {
            for (int line = 0; line < 12; line++) {
                DUE.is("onLine(" + network + ", " + line + ", -1)", x.onLine(network, line, -1), -1);
                DUE.is("waiting(" + network + ", " + line + ", 0)", x.waiting(network, line, 0), 0);
            }
        }
        DUE.drops("of a new object", x);
        DUE.is("byteOf(0)", x.byteOf(0), -1);
    }

    private static void anObjectIsItsOwn() {
        DUE.sentence("No links; time 0.");
        TwinNetwork used = Made.fromZeroToThree(1, 0);
        used.write(0, 5, 1);
        used.tick(100);
        TwinNetwork x = new TwinNetwork();
        DUE.is("tick(0) of another object", x.tick(0), 0);
        DUE.is("fragments(0) of another object", x.fragments(0), -1);
        DUE.is("port(3, 0) of another object", x.port(3, 0), -1);
        DUE.drops("of another object", x);
    }
}
