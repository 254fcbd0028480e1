/** Promise 3: set. */
public final class SetTest {
    private static final String REFUSALS = "False when there is no such port, cost is not 1 .. 50,"
            + " or vlans not 1 .. 3.";
    private static final String COMPUTES = "Port p of bridge b gets a cost and VLANs (1, 2, or 3 for"
            + " both); its bridge computes.";

    public static void main(String[] args) {
        noSuchPort();
        noSuchCost();
        noSuchVlans();
        costCountsAtOnce();
        changeIsTold();
        rootPortMoves();
        vlansFilterFrames();
        Check.end();
    }

    private static void noSuchPort() {
        Check.sentence(REFUSALS);
        BridgeNet x = Nets.pair();
        for (int b : Nets.NO_BRIDGES) {
            Check.no("bridge " + b, x.set(b, 0, 5, 1));
        }
        for (int p : Nets.NO_PORTS) {
            Check.no("port " + p, x.set(1, p, 5, 1));
        }
        Check.same("as before", x.root(1), Nets.root(64, 10, 1));
        bothVlansAreThere(x);
        for (int b = 0; b < 5; b += 4) {
            for (int p = 0; p < 4; p += 3) {
                Check.yes("the first and the last", x.set(b, p, 5, 3));
            }
        }
    }

    private static void noSuchCost() {
        Check.sentence(REFUSALS);
        BridgeNet x = Nets.pair();
        for (int cost : Nets.NO_COSTS) {
            Check.no("cost " + cost, x.set(1, 0, cost, 1));
            Check.same("as before", x.root(1), Nets.root(64, 10, 1));
        }
        bothVlansAreThere(x);
        Check.yes("the least", x.set(1, 0, 1, 3));
        Check.same("root", x.root(1), Nets.root(64, 1, 1));
        Check.no("one less", x.set(1, 0, 0, 3));
        Check.same("as before", x.root(1), Nets.root(64, 1, 1));
        Check.yes("the greatest", x.set(1, 0, 50, 3));
        Check.same("root", x.root(1), Nets.root(64, 50, 1));
        Check.no("one more", x.set(1, 0, 51, 3));
        Check.same("as before", x.root(1), Nets.root(64, 50, 1));
    }

    private static void noSuchVlans() {
        Check.sentence(REFUSALS);
        BridgeNet x = Nets.pair();
        for (int vlans : Nets.NO_VLAN_SETS) {
            Check.no("VLANs " + vlans, x.set(1, 0, 5, vlans));
            Check.same("as before", x.root(1), Nets.root(64, 10, 1));
        }
        bothVlansAreThere(x);
        for (int vlans = 1; vlans <= 3; vlans++) {
            Check.yes("VLANs " + vlans, x.set(1, 0, 10, vlans));
        }
    }

    /** Frames of both VLANs go out on port 0 of bridge 1. */
    private static void bothVlansAreThere(BridgeNet x) {
        x.attach(0, 1, 1, 1);
        x.attach(1, 1, 2, 2);
        x.send(0, 8, 0);
        x.send(1, 8, 0);
        Check.same("both VLANs go out", x.line(0, 0), 2);
    }

    private static void costCountsAtOnce() {
        Check.sentence(COMPUTES);
        BridgeNet x = Nets.pair();
        Check.yes("cost 1", x.set(1, 0, 1, 3));
        Check.same("root with cost 1", x.root(1), Nets.root(64, 1, 1));
        Check.yes("cost 50", x.set(1, 0, 50, 3));
        Check.same("root with cost 50", x.root(1), Nets.root(64, 50, 1));
        Check.yes("the root's own port", x.set(0, 0, 33, 3));
        Check.same("root of 0", x.root(0), Nets.root(64, 0, 0));
        Check.same("root of 1", x.root(1), Nets.root(64, 50, 1));
        Check.yes("a free port", x.set(4, 3, 2, 1));
        Check.same("root of 4", x.root(4), 68);
    }

    private static void changeIsTold() {
        Check.sentence(COMPUTES);
        BridgeNet x = Nets.row();
        Check.yes("set anew", x.set(1, 0, 7, 3));
        Check.same("told after a change", x.line(2, 0), 1);
        Check.same("not told on the root port", x.line(0, 1), 0);
        Check.yes("set the same", x.set(1, 0, 7, 2));
        Check.same("not told without a change", x.line(2, 0), 1);
        Nets.settle(x);
        Check.same("root of 2", x.root(2), Nets.root(64, 17, 2));
    }

    private static void rootPortMoves() {
        Check.sentence(COMPUTES);
        BridgeNet x = new BridgeNet();
        x.link(0, 0, 1, 0);
        x.link(0, 1, 1, 1);
        Nets.settle(x);
        Check.same("lesser port of two", x.port(1, 0), Nets.ROOT_PORT);
        Check.same("greater port of two", x.port(1, 1), Nets.BLOCKED_PORT);
        Check.yes("a cheaper port", x.set(1, 1, 9, 3));
        Check.same("port 0 loses", x.port(1, 0), Nets.BLOCKED_PORT);
        Check.same("port 1 wins", x.port(1, 1), Nets.ROOT_PORT);
        Check.same("root", x.root(1), Nets.root(64, 9, 1));
    }

    private static void vlansFilterFrames() {
        Check.sentence("Port p of bridge b gets a cost and VLANs (1, 2, or 3 for both)");
        for (int vlans = 1; vlans <= 3; vlans++) {
            for (int vlan = 1; vlan <= 2; vlan++) {
                boolean has = (vlans & vlan) != 0;
                BridgeNet x = new BridgeNet();
                x.attach(0, 0, 0, vlan);
                x.attach(1, 0, 1, vlan);
                Check.yes("set the way out", x.set(0, 1, 10, vlans));
                Check.same("out", x.send(0, 8, 1), has ? 1 : 0);
                Check.same("inbox", x.inbox(1, -1), has ? 1 : 0);
                Check.same("in", x.send(1, 8, 1), has ? 1 : 0);
                Check.same("learned", x.learned(0, 1, vlan), has ? 1 : -1);
                Check.same("inbox of the first", x.inbox(0, -1), has ? 1 : 0);
            }
        }
    }
}
