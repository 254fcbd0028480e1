/** Promise 11: port. */
public final class PortTest {
    public static void main(String[] args) {
        noSuchPort();
        allKinds();
        becomingDesignatedStartsAnew();
        becomingBlockedStopsProposing();
        Check.end();
    }

    private static void noSuchPort() {
        BridgeNet x = new BridgeNet();
        for (int b : Nets.NO_BRIDGES) {
            Check.same("no bridge", x.port(b, 0), -1);
        }
        for (int p : Nets.NO_PORTS) {
            Check.same("no port", x.port(0, p), -1);
        }
    }

    private static void allKinds() {
        BridgeNet x = new BridgeNet();
        Check.same("free", x.port(0, 0), 0);
        x.attach(0, 0, 3, 1);
        Check.same("station: role 2, FORWARDING", x.port(0, 3), 10);
        x.link(0, 0, 1, 0);
        x.link(0, 1, 1, 1);
        Check.same("designated, PROPOSING, waits 4", x.port(0, 0), 2 + 16 + 256);
        x.tick();
        Check.same("waits 3", x.port(0, 0), 2 + 16 + 192);
        Nets.ticks(x, 3);
        Check.same("LEARNING, waits 4", x.port(0, 0), 2 + 4 + 16 + 256);
        x.tick();
        Check.same("LEARNING, waits 3", x.port(0, 0), 2 + 4 + 16 + 192);
        Nets.settle(x);
        Check.same("AGREED", x.port(0, 0), 2 + 8 + 32);
        Check.same("root, FORWARDING", x.port(1, 0), 1 + 8);
        Check.same("blocked, DISCARDING", x.port(1, 1), 3);
    }

    private static void becomingDesignatedStartsAnew() {
        BridgeNet x = Nets.pair();
        Nets.ticks(x, 6);
        Check.same("the root port that lost its info", x.port(1, 0),
                Nets.proposing(Nets.DISCARDING, 4));
        BridgeNet y = new BridgeNet();
        y.link(0, 0, 1, 0);
        y.link(0, 1, 1, 1);
        Nets.settle(y);
        Nets.ticks(y, 2);
        Check.same("a TELL for the root port", y.deliver(1, 0), Nets.TELL);
        Nets.ticks(y, 4);
        Check.same("the blocked port that lost its info", y.port(1, 1),
                Nets.proposing(Nets.DISCARDING, 4));
        Check.same("the root port kept its own", y.port(1, 0), Nets.ROOT_PORT);
    }

    private static void becomingBlockedStopsProposing() {
        BridgeNet x = new BridgeNet();
        x.link(0, 0, 1, 0);
        x.link(0, 1, 1, 1);
        x.deliver(1, 0);
        Check.same("proposing", x.port(1, 1), Nets.proposing(Nets.DISCARDING, 4));
        x.deliver(1, 1);
        Check.same("blocked", x.port(1, 1), 3);
        BridgeNet y = new BridgeNet();
        y.link(0, 0, 1, 0);
        y.link(0, 1, 1, 1);
        y.lose(1, 1);
        y.lose(1, 0);
        y.lose(1, 0);
        Nets.ticks(y, 6);
        Check.same("learning", y.port(1, 1), Nets.proposing(Nets.LEARNING, 2));
        y.deliver(1, 0);
        y.deliver(1, 1);
        Check.same("blocked out of LEARNING", y.port(1, 1), 3);
    }
}
