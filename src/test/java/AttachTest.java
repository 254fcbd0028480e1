/** Promise 6: attach. */
public final class AttachTest {
    public static void main(String[] args) {
        aStationForwardsAtOnce();
        wrongInputs();
        whichExceptionComesFirst();
        portsInUse();
        moving();
        movingWithinABridge();
        inboxStays();
        vlanOfTheStation();
        toldOfANewRole();
        Check.end();
    }

    private static void aStationForwardsAtOnce() {
        BridgeNet x = new BridgeNet();
        for (int s = 0; s < 8; s++) {
            x.attach(s, s % 5, s / 5, 1 + s % 2);
            Check.same("port", x.port(s % 5, s / 5), Nets.STATION_PORT);
        }
        Nets.ticks(x, 20);
        Check.same("it stays so", x.port(0, 0), Nets.STATION_PORT);
        Check.same("nothing told", x.line(0, 0), 0);
    }

    private static void wrongInputs() {
        BridgeNet x = new BridgeNet();
        for (int s : Nets.NO_STATIONS) {
            Check.thrown("no station", IndexOutOfBoundsException.class, () -> x.attach(s, 0, 0, 1));
        }
        for (int b : Nets.NO_BRIDGES) {
            Check.thrown("no bridge", IndexOutOfBoundsException.class, () -> x.attach(0, b, 0, 1));
        }
        for (int p : Nets.NO_PORTS) {
            Check.thrown("no port", IndexOutOfBoundsException.class, () -> x.attach(0, 0, p, 1));
        }
        for (int vlan : Nets.NO_VLANS) {
            Check.thrown("no VLAN", IllegalArgumentException.class, () -> x.attach(0, 0, 0, vlan));
        }
        Check.same("port after refusals", x.port(0, 0), Nets.FREE);
        Check.thrown("nowhere still", IllegalStateException.class, () -> x.send(0, 8, 1));
    }

    private static void whichExceptionComesFirst() {
        BridgeNet x = new BridgeNet();
        x.attach(0, 0, 0, 1);
        Check.thrown("no station, no VLAN, not free", IndexOutOfBoundsException.class,
                () -> x.attach(8, 0, 0, 3));
        Check.thrown("no port, no VLAN", IndexOutOfBoundsException.class,
                () -> x.attach(0, 0, 4, 0));
        Check.thrown("no VLAN, not free", IllegalArgumentException.class,
                () -> x.attach(1, 0, 0, 3));
    }

    private static void portsInUse() {
        BridgeNet x = new BridgeNet();
        x.link(0, 0, 1, 0);
        x.attach(0, 0, 1, 1);
        x.attach(1, 0, 2, 1);
        Check.thrown("a link's port", IllegalStateException.class, () -> x.attach(0, 0, 0, 1));
        Check.thrown("a link's other port", IllegalStateException.class, () -> x.attach(0, 1, 0, 1));
        Check.thrown("another's port", IllegalStateException.class, () -> x.attach(0, 0, 2, 1));
        Check.thrown("its own port", IllegalStateException.class, () -> x.attach(0, 0, 1, 2));
        Check.same("it stays where it was", x.port(0, 1), Nets.STATION_PORT);
        Check.same("in its VLAN", x.send(0, 8, 1), 1);
        Check.same("in its VLAN", x.learned(0, 0, 1), 1);
    }

    private static void moving() {
        BridgeNet x = new BridgeNet();
        x.attach(6, 0, 0, 1);
        x.attach(7, 0, 1, 1);
        x.send(6, 8, 1);
        x.send(7, 8, 1);
        x.attach(6, 4, 3, 2);
        Check.same("the port it left", x.port(0, 0), Nets.FREE);
        Check.same("the port it came to", x.port(4, 3), Nets.STATION_PORT);
        Check.same("its old place is forgotten", x.learned(0, 6, 1), -1);
        Check.same("another's place is not", x.learned(0, 7, 1), 1);
        Check.same("nothing goes to the old port", x.send(7, 8, 2), 0);
        x.send(6, 8, 1);
        Check.same("it sends from the new one", x.learned(4, 6, 2), 3);
        Check.yes("the old port can be linked", x.link(0, 0, 1, 0));
    }

    private static void movingWithinABridge() {
        BridgeNet x = new BridgeNet();
        x.attach(0, 0, 0, 1);
        x.attach(1, 0, 2, 1);
        x.attach(0, 0, 1, 1);
        Check.same("left", x.port(0, 0), Nets.FREE);
        Check.same("came", x.port(0, 1), Nets.STATION_PORT);
        Check.same("one way out", x.send(1, 8, 5), 1);
        Check.same("inbox", x.inbox(0, 0), Nets.kept(1, 8, 5));
    }

    private static void inboxStays() {
        BridgeNet x = new BridgeNet();
        x.attach(0, 0, 0, 1);
        x.attach(1, 0, 1, 1);
        x.send(1, 0, 11);
        x.attach(0, 0, 2, 1);
        x.send(1, 0, 12);
        Check.same("count", x.inbox(0, -1), 2);
        Check.same("of before", x.inbox(0, 0), Nets.kept(1, 0, 11));
        Check.same("of after", x.inbox(0, 1), Nets.kept(1, 0, 12));
    }

    private static void vlanOfTheStation() {
        BridgeNet x = new BridgeNet();
        x.attach(0, 0, 0, 1);
        x.attach(1, 0, 1, 2);
        x.send(0, 8, 1);
        Check.same("not in this VLAN", x.inbox(1, -1), 0);
        x.attach(1, 0, 2, 1);
        x.send(0, 8, 2);
        Check.same("now in this VLAN", x.inbox(1, 0), Nets.kept(0, 8, 2));
    }

    private static void toldOfANewRole() {
        BridgeNet x = Nets.pair();
        x.attach(0, 0, 1, 1);
        Check.same("told on the designated port", x.line(1, 0), 1);
        x.attach(1, 1, 1, 1);
        Check.same("not told on the root port", x.line(0, 0), 0);
        // The port that is left has role none before its bridge computes: no role changes then.
        x.attach(0, 2, 1, 1);
        Check.same("not told when it goes", x.line(1, 0), 1);
    }
}
