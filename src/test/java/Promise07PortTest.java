/** Promise 7: how old the SAMPLING message is, or how many QUEUING ones are there. */
public final class Promise07PortTest {
    private static final Due DUE = new Due("promise 7");

    public static void main(String[] args) {
        aSamplingPortTellsTheAge();
        aSamplingPortWithoutOneTellsNone();
        aQueuingPortTellsTheNumber();
        otherPortsAreNotThere();
        DUE.end();
    }

    private static void aSamplingPortTellsTheAge() {
        DUE.sentence("How many ticks ago the present SAMPLING message came");
        TwinNetwork x = Made.fromZeroToThree(20, 0);
        x.write(0, 1, 1);
        x.tick(17);
        DUE.is("port(3, 0) at 17", x.port(3, 0), 1);
        x.tick(8);
        DUE.is("port(3, 0) at 25", x.port(3, 0), 9);
        x.read(3, 0);
        DUE.is("port(3, 0) when it was read", x.port(3, 0), 9);
        x.write(0, 1, 2);
        x.tick(16);
        DUE.is("port(3, 0) at 41", x.port(3, 0), 25);
        x.tick(1);
        DUE.is("port(3, 0) at 42, when another came", x.port(3, 0), 1);
        x.tick(2000);
        x.tick(2000);
        DUE.is("port(3, 0) at 4042", x.port(3, 0), 4001);
    }

    private static void aSamplingPortWithoutOneTellsNone() {
        DUE.sentence("NONE without one");
        TwinNetwork x = Made.fromZeroToThree(20, 0);
        DUE.is("port(3, 0) at 0", x.port(3, 0), -1);
        x.write(0, 1, 1);
        x.tick(16);
        DUE.is("port(3, 0) at 16", x.port(3, 0), -1);
        x.tick(1);
        DUE.is("port(3, 0) at 17", x.port(3, 0), 1);
    }

    private static void aQueuingPortTellsTheNumber() {
        DUE.sentence("how many QUEUING messages are there");
        TwinNetwork x = Made.fromZeroToThree(20, Made.QUEUING);
        DUE.is("port(3, 0) at 0", x.port(3, 0), 0);
        for (int i = 0; i < 6; i++) {
            x.write(0, 1, 1);
        }
        x.tick(16);
        for (int i = 0; i < 6; i++) {
            x.tick(1);
            DUE.is("port(3, 0) after " + (i + 1), x.port(3, 0), i < 4 ? i + 1 : 4);
            x.tick(15);
        }
        for (int i = 0; i < 5; i++) {
            x.read(3, 0);
            DUE.is("port(3, 0) after read " + i, x.port(3, 0), i < 4 ? 3 - i : 0);
        }
    }

    private static void otherPortsAreNotThere() {
        DUE.sentence("NONE without one, or no such end system or link");
        for (int more : new int[] {0, Made.QUEUING}) {
            TwinNetwork x = Made.fromZeroToThree(20, more);
            x.write(0, 1, 1);
            x.tick(40);
            int[][] none = {{-1, 0}, {4, 0}, {0, 0}, {1, 0}, {2, 0}, {3, 1}, {3, -1}, {3, 8}, {35, 0}, {3, 32},
                {Integer.MIN_VALUE, 0}, {3, Integer.MAX_VALUE}};
            for (int[] a : none) {
                DUE.is("port(" + a[0] + ", " + a[1] + ")", x.port(a[0], a[1]), -1);
            }
        }
    }
}
