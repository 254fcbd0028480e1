/** Promise 7: send. */
public final class SendTest {
    private static final String HOW_MANY = "Answers on how many ports its bridge let it go out.";

    public static void main(String[] args) {
        noSuchStation();
        nowhere();
        noSuchDestination();
        inItsVlan();
        onHowManyPorts();
        whichExceptionComesFirst();
        floodAndLearned();
        reservedAndOwn();
        overALink();
        notForwarding();
        otherVlans();
        fullLineAndInboxCount();
        Check.end();
    }

    private static void noSuchStation() {
        Check.sentence("IndexOutOfBoundsException when there is no s");
        BridgeNet x = new BridgeNet();
        x.attach(0, 0, 0, 1);
        x.attach(7, 0, 1, 1);
        for (int s : Nets.NO_STATIONS) {
            Check.thrown("station " + s, IndexOutOfBoundsException.class, () -> x.send(s, 8, 1));
        }
        Check.same("no inbox", x.inbox(0, -1) + x.inbox(7, -1), 0);
        Check.same("the first", x.send(0, 8, 1), 1);
        Check.same("the last", x.send(7, 8, 1), 1);
    }

    private static void nowhere() {
        Check.sentence("IllegalStateException when it is nowhere");
        BridgeNet x = new BridgeNet();
        x.attach(0, 0, 0, 1);
        for (int s = 1; s < 8; s++) {
            int station = s;
            Check.thrown("station " + s, IllegalStateException.class, () -> x.send(station, 8, 1));
            Check.same("nothing learned", x.learned(0, s, 1), -1);
        }
        Check.same("nothing came", x.inbox(0, -1), 0);
        x.attach(0, 3, 3, 2);
        Check.same("one that has moved is somewhere", x.send(0, 8, 1), 0);
        Check.same("learned", x.learned(3, 0, 2), 3);
    }

    private static void noSuchDestination() {
        Check.sentence("IllegalArgumentException when the destination is not 0 .. 9.");
        BridgeNet x = new BridgeNet();
        x.attach(0, 0, 0, 1);
        x.attach(1, 0, 1, 1);
        for (int d : Nets.NO_DESTINATIONS) {
            Check.thrown("to " + d, IllegalArgumentException.class, () -> x.send(0, d, 1));
        }
        Check.same("nothing learned", x.learned(0, 0, 1), -1);
        Check.same("nothing came", x.inbox(1, -1), 0);
        for (int d = 0; d <= 9; d++) {
            Check.same("to " + d, x.send(0, d, Integer.MIN_VALUE), d == 0 || d == 9 ? 0 : 1);
        }
    }

    private static void inItsVlan() {
        Check.sentence("Station s sends a frame in its VLAN.");
        for (int vlan = 1; vlan <= 2; vlan++) {
            BridgeNet x = Nets.pair();
            x.attach(0, 1, 1, 3 - vlan);
            x.attach(0, 1, 2, vlan);
            x.send(0, 8, 1);
            Check.same("message", x.message(0, 0, 0), Nets.frame(8, vlan));
            Check.same("learned", x.learned(1, 0, vlan), 2);
            Check.same("not in the other", x.learned(1, 0, 3 - vlan), -1);
        }
    }

    private static void onHowManyPorts() {
        Check.sentence(HOW_MANY);
        BridgeNet x = new BridgeNet();
        x.attach(0, 0, 0, 1);
        Check.same("none", x.send(0, 8, 1), 0);
        for (int s = 1; s < 4; s++) {
            x.attach(s, 0, s, 1);
            Check.same("for all on " + s, x.send(0, 8, 1), s);
            Check.same("for one that is not known on " + s, x.send(0, 7, 1), s);
        }
    }

    private static void whichExceptionComesFirst() {
        Check.sentence("throws IndexOutOfBoundsException, IllegalStateException,"
                + " IllegalArgumentException");
        BridgeNet x = new BridgeNet();
        Check.thrown("no station, no destination", IndexOutOfBoundsException.class,
                () -> x.send(8, 10, 1));
        Check.thrown("nowhere, no destination", IllegalStateException.class,
                () -> x.send(0, 10, 1));
    }

    private static void floodAndLearned() {
        Check.sentence(HOW_MANY);
        BridgeNet x = new BridgeNet();
        for (int s = 0; s < 4; s++) {
            x.attach(s, 0, s, 1);
        }
        Check.same("not learned: on all others", x.send(0, 2, 5), 3);
        for (int s = 1; s < 4; s++) {
            Check.same("into each inbox", x.inbox(s, 0), Nets.kept(0, 2, 5));
        }
        Check.same("not into its own", x.inbox(0, -1), 0);
        Check.same("learned: on one", x.send(2, 0, 6), 1);
        Check.same("into this inbox", x.inbox(0, 0), Nets.kept(2, 0, 6));
        Check.same("not into another", x.inbox(1, -1), 1);
        Check.same("to all", x.send(2, 8, 7), 3);
        Check.same("to a station that is nowhere", x.send(2, 7, 8), 3);
    }

    private static void reservedAndOwn() {
        Check.sentence(HOW_MANY);
        BridgeNet x = new BridgeNet();
        x.attach(0, 0, 0, 1);
        x.attach(1, 0, 1, 1);
        Check.same("reserved", x.send(0, 9, 1), 0);
        Check.same("but learned", x.learned(0, 0, 1), 0);
        Check.same("no inbox", x.inbox(1, -1), 0);
        Check.same("to itself", x.send(1, 1, 1), 0);
        Check.same("no inbox", x.inbox(0, -1), 0);
        Check.same("no own inbox", x.inbox(1, -1), 0);
    }

    private static void overALink() {
        Check.sentence(HOW_MANY);
        BridgeNet x = Nets.pair();
        x.attach(0, 0, 1, 2);
        x.attach(1, 1, 1, 2);
        Nets.settle(x);
        Check.same("on the link", x.send(0, 1, -1), 1);
        Check.same("message", x.message(1, 0, 0), Nets.frame(1, 2));
        Check.same("deliver", x.deliver(1, 0), Nets.FRAME);
        Check.same("inbox", x.inbox(1, 0), Nets.kept(0, 1, -1));
        Check.same("back on the learned way", x.send(1, 0, 9), 1);
        Check.same("deliver", x.deliver(0, 0), Nets.FRAME);
        Check.same("inbox", x.inbox(0, 0), Nets.kept(1, 0, 9));
    }

    private static void notForwarding() {
        Check.sentence(HOW_MANY);
        BridgeNet x = new BridgeNet();
        x.link(0, 0, 1, 0);
        x.attach(0, 0, 1, 1);
        Check.same("DISCARDING lets nothing out", x.send(0, 8, 1), 0);
        Nets.ticks(x, 4);
        Check.same("LEARNING lets nothing out", x.send(0, 8, 1), 0);
        Nets.ticks(x, 4);
        Check.same("FORWARDING does", x.send(0, 8, 1), 1);
    }

    private static void otherVlans() {
        Check.sentence(HOW_MANY);
        BridgeNet x = new BridgeNet();
        x.attach(0, 0, 0, 1);
        x.attach(1, 0, 1, 2);
        x.set(0, 1, 10, 2);
        Check.same("the port has not the VLAN", x.send(0, 8, 1), 0);
        x.set(0, 1, 10, 3);
        // The bridge lets it out on a port that has the VLAN; the station there does not keep it.
        Check.same("the port has the VLAN", x.send(0, 8, 1), 1);
        Check.same("the station is in another", x.inbox(1, -1), 0);
        x.send(1, 8, 1);
        Check.same("learned in its own VLAN", x.learned(0, 1, 2), 1);
        Check.same("not in another", x.learned(0, 1, 1), -1);
        x.set(0, 0, 10, 2);
        Check.same("its own port has not the VLAN", x.send(0, 8, 1), 0);
    }

    private static void fullLineAndInboxCount() {
        Check.sentence(HOW_MANY);
        BridgeNet x = Nets.pair();
        x.attach(0, 0, 1, 1);
        x.attach(1, 0, 2, 1);
        for (int i = 0; i < 45; i++) {
            Check.same("link and station", x.send(0, 8, i), 2);
        }
        Check.same("line", x.line(1, 0), 12);
        Check.same("inbox", x.inbox(1, -1), 40);
    }
}
