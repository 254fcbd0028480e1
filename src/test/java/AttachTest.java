/** Promise 6: attach. */
public final class AttachTest {
    private static final String NO_SUCH = "IndexOutOfBoundsException when there is no s or no such port";
    private static final String NOT_FREE = "IllegalStateException when the port is not free (also"
            + " when s itself is there).";
    private static final String COMES = "Station s comes to port p of bridge b, in a VLAN";
    private static final String LEAVES = "(from where it was, if it was somewhere: that port becomes"
            + " free first; the inbox stays)";

    public static void main(String[] args) {
        aStationForwardsAtOnce();
        noSuchStationOrPort();
        noSuchVlan();
        whichExceptionComesFirst();
        portsInUse();
        freedPorts();
        moving();
        movingWithinABridge();
        inboxStays();
        vlanOfTheStation();
        toldOfANewRole();
        Check.end();
    }

    private static void aStationForwardsAtOnce() {
        Check.sentence(COMES);
        BridgeNet x = new BridgeNet();
        for (int s = 0; s < 8; s++) {
            x.attach(s, s % 5, s / 5, 1 + s % 2);
            Check.same("port", x.port(s % 5, s / 5), Nets.STATION_PORT);
        }
        Nets.ticks(x, 20);
        Check.same("it stays so", x.port(0, 0), Nets.STATION_PORT);
        Check.same("nothing told", x.line(0, 0), 0);
    }

    private static void noSuchStationOrPort() {
        Check.sentence(NO_SUCH);
        BridgeNet x = new BridgeNet();
        for (int s : Nets.NO_STATIONS) {
            Check.thrown("station " + s, IndexOutOfBoundsException.class, () -> x.attach(s, 0, 0, 1));
        }
        for (int b : Nets.NO_BRIDGES) {
            Check.thrown("bridge " + b, IndexOutOfBoundsException.class, () -> x.attach(0, b, 0, 1));
        }
        for (int p : Nets.NO_PORTS) {
            Check.thrown("port " + p, IndexOutOfBoundsException.class, () -> x.attach(0, 1, p, 1));
        }
        for (int b = 0; b < 5; b++) {
            for (int p = 0; p < 4; p++) {
                Check.same("free still", x.port(b, p), Nets.FREE);
            }
        }
        Check.thrown("nowhere still", IllegalStateException.class, () -> x.send(0, 8, 1));
        x.attach(0, 0, 0, 1);
        x.attach(7, 4, 3, 1);
        Check.same("the first of all", x.port(0, 0), Nets.STATION_PORT);
        Check.same("the last of all", x.port(4, 3), Nets.STATION_PORT);
        x.attach(7, 0, 3, 1);
        x.attach(0, 4, 0, 1);
        Check.same("the last port", x.port(0, 3), Nets.STATION_PORT);
        Check.same("the last bridge", x.port(4, 0), Nets.STATION_PORT);
    }

    private static void noSuchVlan() {
        Check.sentence("IllegalArgumentException when vlan is not 1 or 2");
        BridgeNet x = new BridgeNet();
        x.attach(1, 1, 1, 1);
        for (int vlan : Nets.NO_VLANS) {
            Check.thrown("VLAN " + vlan, IllegalArgumentException.class, () -> x.attach(0, 0, 0, vlan));
            Check.thrown("VLAN " + vlan, IllegalArgumentException.class, () -> x.attach(1, 0, 0, vlan));
        }
        Check.same("free still", x.port(0, 0), Nets.FREE);
        Check.same("it stays where it was", x.port(1, 1), Nets.STATION_PORT);
        Check.thrown("nowhere still", IllegalStateException.class, () -> x.send(0, 8, 1));
        x.attach(0, 0, 0, 1);
        x.attach(1, 0, 1, 2);
        x.send(0, 9, 1);
        x.send(1, 9, 1);
        Check.same("the first VLAN", x.learned(0, 0, 1), 0);
        Check.same("the last VLAN", x.learned(0, 1, 2), 1);
    }

    private static void whichExceptionComesFirst() {
        Check.sentence("throws IndexOutOfBoundsException, IllegalArgumentException,"
                + " IllegalStateException");
        BridgeNet x = new BridgeNet();
        x.attach(0, 0, 0, 1);
        Check.thrown("no station, no VLAN, not free", IndexOutOfBoundsException.class,
                () -> x.attach(8, 0, 0, 3));
        Check.thrown("no port, no VLAN", IndexOutOfBoundsException.class,
                () -> x.attach(0, 0, 4, 0));
        Check.thrown("no VLAN, not free", IllegalArgumentException.class,
                () -> x.attach(1, 0, 0, 3));
    }

    private static void portsInUse() {
        Check.sentence(NOT_FREE);
        BridgeNet x = new BridgeNet();
        x.link(0, 0, 1, 0);
        x.attach(0, 0, 1, 1);
        x.attach(1, 0, 2, 1);
        Check.thrown("a link's port", IllegalStateException.class, () -> x.attach(0, 0, 0, 1));
        Check.thrown("a link's other port", IllegalStateException.class, () -> x.attach(0, 1, 0, 1));
        Check.thrown("another's port", IllegalStateException.class, () -> x.attach(0, 0, 2, 1));
        Check.thrown("its own port", IllegalStateException.class, () -> x.attach(0, 0, 1, 2));
        Check.same("it stays where it was", x.port(0, 1), Nets.STATION_PORT);
        Check.same("in its VLAN", x.send(0, 8, 1), 1);
        Check.same("in its VLAN", x.learned(0, 0, 1), 1);
    }

    private static void freedPorts() {
        Check.sentence(NOT_FREE);
        BridgeNet x = new BridgeNet();
        x.link(0, 0, 1, 0);
        x.attach(0, 0, 1, 1);
        x.cut(0, 0);
        x.attach(0, 0, 0, 1);
        Check.same("where a link was", x.port(0, 0), Nets.STATION_PORT);
        x.attach(0, 0, 1, 2);
        Check.same("where it was itself", x.port(0, 1), Nets.STATION_PORT);
        x.attach(1, 0, 0, 1);
        Check.same("where another was", x.port(0, 0), Nets.STATION_PORT);
    }

    private static void moving() {
        Check.sentence(LEAVES);
        BridgeNet x = new BridgeNet();
        x.attach(6, 0, 0, 1);
        x.attach(7, 0, 1, 1);
        x.send(6, 8, 1);
        x.send(7, 8, 1);
        x.attach(6, 4, 3, 2);
        Check.same("the port it left", x.port(0, 0), Nets.FREE);
        Check.same("the port it came to", x.port(4, 3), Nets.STATION_PORT);
        Check.same("its old place is forgotten", x.learned(0, 6, 1), -1);
        Check.same("another's place is not", x.learned(0, 7, 1), 1);
        Check.same("nothing goes to the old port", x.send(7, 8, 2), 0);
        x.send(6, 8, 1);
        Check.same("it sends from the new one", x.learned(4, 6, 2), 3);
        Check.yes("the old port can be linked", x.link(0, 0, 1, 0));
    }

    private static void movingWithinABridge() {
        Check.sentence(LEAVES);
        BridgeNet x = new BridgeNet();
        x.attach(0, 0, 0, 1);
        x.attach(1, 0, 2, 1);
        x.attach(0, 0, 1, 1);
        Check.same("left", x.port(0, 0), Nets.FREE);
        Check.same("came", x.port(0, 1), Nets.STATION_PORT);
        Check.same("one way out", x.send(1, 8, 5), 1);
        Check.same("inbox", x.inbox(0, 0), Nets.kept(1, 8, 5));
    }

    private static void inboxStays() {
        Check.sentence(LEAVES);
        BridgeNet x = new BridgeNet();
        x.attach(0, 0, 0, 1);
        x.attach(1, 0, 1, 1);
        x.send(1, 0, 11);
        x.attach(0, 0, 2, 1);
        x.send(1, 0, 12);
        Check.same("count", x.inbox(0, -1), 2);
        Check.same("of before", x.inbox(0, 0), Nets.kept(1, 0, 11));
        Check.same("of after", x.inbox(0, 1), Nets.kept(1, 0, 12));
    }

    private static void vlanOfTheStation() {
        Check.sentence(COMES);
        BridgeNet x = new BridgeNet();
        x.attach(0, 0, 0, 1);
        x.attach(1, 0, 1, 2);
        x.send(0, 8, 1);
        Check.same("not in this VLAN", x.inbox(1, -1), 0);
        x.attach(1, 0, 2, 1);
        x.send(0, 8, 2);
        Check.same("now in this VLAN", x.inbox(1, 0), Nets.kept(0, 8, 2));
    }

    private static void toldOfANewRole() {
        Check.sentence(COMES);
        BridgeNet x = Nets.pair();
        x.attach(0, 0, 1, 1);
        Check.same("told on the designated port", x.line(1, 0), 1);
        x.attach(1, 1, 1, 1);
        Check.same("not told on the root port", x.line(0, 0), 0);
        // The port that is left has role none before its bridge computes: no role changes then.
        x.attach(0, 2, 1, 1);
        Check.same("not told when it goes", x.line(1, 0), 1);
    }
}
