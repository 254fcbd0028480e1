/** Promise 1: a new object. */
public final class NewObjectTest {
    public static void main(String[] args) {
        nothingIsThere();
        costsAreTen();
        bothVlansAreOnAllPorts();
        objectsAreApart();
        Check.end();
    }

    private static void nothingIsThere() {
        Check.sentence("nothing linked. Every bridge is its own root.");
        BridgeNet x = new BridgeNet();
        for (int b = 0; b < 5; b++) {
            Check.same("root of new bridge " + b, x.root(b), Nets.root(64 + b, 0, 0));
            for (int p = 0; p < 4; p++) {
                Check.same("new port", x.port(b, p), Nets.FREE);
                Check.same("new info", x.info(b, p), -1);
                Check.same("new line", x.line(b, p), 0);
                Check.same("new message", x.message(b, p, 0), 0);
                Check.same("nothing to deliver", x.deliver(b, p), 0);
                Check.no("nothing to lose", x.lose(b, p));
                Check.no("cut of a new port", x.cut(b, p));
            }
            for (int s = 0; s < 8; s++) {
                Check.same("learned in VLAN 1", x.learned(b, s, 1), -1);
                Check.same("learned in VLAN 2", x.learned(b, s, 2), -1);
            }
        }
        for (int s = 0; s < 8; s++) {
            int station = s;
            Check.same("new inbox", x.inbox(s, -1), 0);
            Check.same("nothing in it", x.inbox(s, 0), -1);
            Check.thrown("send of a new station", IllegalStateException.class,
                    () -> x.send(station, 8, 1));
        }
    }

    private static void costsAreTen() {
        Check.sentence("All priorities 8, costs 10");
        for (int c = 1; c < 5; c++) {
            for (int q = 0; q < 4; q++) {
                BridgeNet x = new BridgeNet();
                Check.yes("link", x.link(0, 0, c, q));
                Check.same("deliver", x.deliver(c, q), Nets.TELL);
                Check.same("root over port " + q, x.root(c), Nets.root(64, 10, 1));
            }
        }
        for (int p = 0; p < 4; p++) {
            BridgeNet x = new BridgeNet();
            Check.yes("priority(1, 0)", x.priority(1, 0));
            Check.yes("link", x.link(0, p, 1, 0));
            Check.same("deliver", x.deliver(0, p), Nets.TELL);
            Check.same("root of 0 over port " + p, x.root(0), Nets.root(1, 10, 1));
        }
    }

    private static void bothVlansAreOnAllPorts() {
        Check.sentence("both VLANs on all ports");
        for (int b = 0; b < 5; b++) {
            BridgeNet x = new BridgeNet();
            for (int p = 0; p < 4; p++) {
                x.attach(p, b, p, 1 + p % 2);
            }
            for (int s = 0; s < 4; s++) {
                x.send(s, 8, s);
                Check.same("learned", x.learned(b, s, 1 + s % 2), s);
                Check.same("inbox of the other in the VLAN", x.inbox((s + 2) % 4, -1), 1);
            }
        }
    }

    private static void objectsAreApart() {
        Check.sentence("");
        BridgeNet one = new BridgeNet();
        BridgeNet other = new BridgeNet();
        String before = Nets.snapshot(new BridgeNet());
        one.link(0, 0, 1, 0);
        one.attach(0, 0, 1, 1);
        one.send(0, 8, 1);
        one.tick();
        if (!Nets.snapshot(other).equals(before)) {
            Check.report("a call on one object changed another");
        }
    }
}
