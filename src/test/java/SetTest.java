/** Promise 3: set. */
public final class SetTest {
    public static void main(String[] args) {
        wrongInputs();
        costCountsAtOnce();
        changeIsTold();
        rootPortMoves();
        vlansFilterFrames();
        Check.end();
    }

    private static void wrongInputs() {
        BridgeNet x = Nets.pair();
        for (int b : Nets.NO_BRIDGES) {
            Check.no("set on no bridge", x.set(b, 0, 5, 3));
        }
        for (int p : Nets.NO_PORTS) {
            Check.no("set on no port", x.set(1, p, 5, 3));
        }
        for (int cost : new int[] {0, 51, -1, Integer.MIN_VALUE, Integer.MAX_VALUE}) {
            Check.no("set cost " + cost, x.set(1, 0, cost, 3));
        }
        for (int vlans : new int[] {0, 4, -1, Integer.MIN_VALUE, Integer.MAX_VALUE}) {
            Check.no("set VLANs " + vlans, x.set(1, 0, 5, vlans));
        }
        Check.same("root after refusals", x.root(1), Nets.root(64, 10, 1));
        x.attach(0, 1, 1, 1);
        x.attach(1, 1, 2, 2);
        x.send(0, 8, 0);
        x.send(1, 8, 0);
        Check.same("both VLANs go out still", x.line(0, 0), 2);
    }

    private static void costCountsAtOnce() {
        BridgeNet x = Nets.pair();
        Check.yes("cost 1", x.set(1, 0, 1, 3));
        Check.same("root with cost 1", x.root(1), Nets.root(64, 1, 1));
        Check.yes("cost 50", x.set(1, 0, 50, 3));
        Check.same("root with cost 50", x.root(1), Nets.root(64, 50, 1));
        Check.yes("the root's own port", x.set(0, 0, 33, 3));
        Check.same("root of 0", x.root(0), Nets.root(64, 0, 0));
        Check.same("root of 1", x.root(1), Nets.root(64, 50, 1));
        Check.yes("a free port", x.set(4, 3, 2, 1));
        Check.same("root of 4", x.root(4), 68);
    }

    private static void changeIsTold() {
        BridgeNet x = Nets.row();
        Check.yes("set anew", x.set(1, 0, 7, 3));
        Check.same("told after a change", x.line(2, 0), 1);
        Check.same("not told on the root port", x.line(0, 1), 0);
        Check.yes("set the same", x.set(1, 0, 7, 2));
        Check.same("not told without a change", x.line(2, 0), 1);
        Nets.settle(x);
        Check.same("root of 2", x.root(2), Nets.root(64, 17, 2));
    }

    private static void rootPortMoves() {
        BridgeNet x = new BridgeNet();
        x.link(0, 0, 1, 0);
        x.link(0, 1, 1, 1);
        Nets.settle(x);
        Check.same("lesser port of two", x.port(1, 0), Nets.ROOT_PORT);
        Check.same("greater port of two", x.port(1, 1), Nets.BLOCKED_PORT);
        Check.yes("a cheaper port", x.set(1, 1, 9, 3));
        Check.same("port 0 loses", x.port(1, 0), Nets.BLOCKED_PORT);
        Check.same("port 1 wins", x.port(1, 1), Nets.ROOT_PORT);
        Check.same("root", x.root(1), Nets.root(64, 9, 1));
    }

    private static void vlansFilterFrames() {
        for (int vlans = 1; vlans <= 3; vlans++) {
            for (int vlan = 1; vlan <= 2; vlan++) {
                boolean has = (vlans & vlan) != 0;
                BridgeNet x = new BridgeNet();
                x.attach(0, 0, 0, vlan);
                x.attach(1, 0, 1, vlan);
                Check.yes("set the way out", x.set(0, 1, 10, vlans));
                Check.same("out", x.send(0, 8, 1), has ? 1 : 0);
                Check.same("inbox", x.inbox(1, -1), has ? 1 : 0);
                Check.same("in", x.send(1, 8, 1), has ? 1 : 0);
                Check.same("learned", x.learned(0, 1, vlan), has ? 1 : -1);
                Check.same("inbox of the first", x.inbox(0, -1), has ? 1 : 0);
            }
        }
    }
}
