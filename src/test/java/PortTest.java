/** Promise 11: port. */
public final class PortTest {
    public static void main(String[] args) {
        noSuchPort();
        everyPartOfTheAnswer();
        itDoesNotWait();
        Check.end();
    }

    private static void noSuchPort() {
        Check.sentence("-1 when there is none.");
        BridgeNet x = new BridgeNet();
        x.attach(0, 0, 0, 1);
        x.attach(1, 4, 3, 1);
        for (int b : Nets.NO_BRIDGES) {
            Check.same("bridge " + b, x.port(b, 0), -1);
            Check.same("bridge " + b, x.port(b, 3), -1);
        }
        for (int p : Nets.NO_PORTS) {
            Check.same("port " + p, x.port(0, p), -1);
            Check.same("port " + p, x.port(4, p), -1);
        }
        Check.same("no bridge, no port", x.port(5, 4), -1);
        Check.same("the first", x.port(0, 0), Nets.STATION_PORT);
        Check.same("the last", x.port(4, 3), Nets.STATION_PORT);
    }

    private static void everyPartOfTheAnswer() {
        Check.sentence("A port: its role, plus 4 times its state (0 DISCARDING, 1 LEARNING, 2"
                + " FORWARDING), plus 16 if PROPOSING, plus 32 if AGREED, plus 64 times the ticks"
                + " that it waits");
        BridgeNet x = new BridgeNet();
        Check.same("free", x.port(0, 0), 0);
        x.attach(0, 0, 3, 1);
        Check.same("station: role 2, FORWARDING", x.port(0, 3), 10);
        x.link(0, 0, 1, 0);
        x.link(0, 1, 1, 1);
        Check.same("designated, PROPOSING, waits 4", x.port(0, 0), 2 + 16 + 256);
        x.tick();
        Check.same("waits 3", x.port(0, 0), 2 + 16 + 192);
        Nets.ticks(x, 2);
        Check.same("waits 1", x.port(0, 0), 2 + 16 + 64);
        x.tick();
        Check.same("LEARNING, waits 4", x.port(0, 0), 2 + 4 + 16 + 256);
        x.tick();
        Check.same("LEARNING, waits 3", x.port(0, 0), 2 + 4 + 16 + 192);
        Nets.settle(x);
        Check.same("AGREED", x.port(0, 0), 2 + 8 + 32);
        Check.same("root, FORWARDING", x.port(1, 0), 1 + 8);
        Check.same("blocked, DISCARDING", x.port(1, 1), 3);
    }

    /** From a wait that has begun to each of the ways in which it ends. */
    private static void itDoesNotWait() {
        Check.sentence("(0 when it doesn't: no linked DESIGNATED port, or FORWARDING)");
        BridgeNet root = new BridgeNet();
        root.link(0, 0, 1, 0);
        root.tick();
        root.deliver(1, 0);
        Check.same("a root port", root.port(1, 0) / 64, 0);
        root.deliver(0, 0);
        Check.same("waiting", root.port(0, 0) / 64, 3);
        root.deliver(0, 0);
        Check.same("FORWARDING by agreement", root.port(0, 0) / 64, 0);

        BridgeNet blocked = new BridgeNet();
        blocked.link(0, 0, 1, 0);
        blocked.link(0, 1, 1, 1);
        Nets.ticks(blocked, 5);
        blocked.deliver(1, 0);
        blocked.deliver(1, 1);
        Check.same("a blocked port", blocked.port(1, 1) / 64, 0);

        BridgeNet free = new BridgeNet();
        free.link(0, 0, 1, 0);
        free.tick();
        free.cut(0, 0);
        Check.same("a free port", free.port(0, 0) / 64, 0);
        free.attach(0, 0, 0, 1);
        Check.same("a station's port", free.port(0, 0) / 64, 0);

        BridgeNet waited = new BridgeNet();
        waited.link(0, 0, 1, 0);
        Nets.ticks(waited, 7);
        Check.same("the last tick", waited.port(0, 0) / 64, 1);
        waited.tick();
        Check.same("FORWARDING by waiting", waited.port(0, 0) / 64, 0);
    }
}
