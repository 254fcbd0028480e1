/** Promise 17: message. */
public final class MessageTest {
    public static void main(String[] args) {
        none();
        everyKind();
        aPlaceIsUsedAgain();
        Check.end();
    }

    private static void none() {
        BridgeNet x = new BridgeNet();
        x.link(0, 0, 1, 0);
        for (int k : new int[] {-1, 1, 11, 12, 13, Integer.MIN_VALUE, Integer.MAX_VALUE}) {
            Check.same("message " + k, x.message(0, 0, k), 0);
        }
        Check.same("free port", x.message(0, 1, 0), 0);
        for (int b : Nets.NO_BRIDGES) {
            Check.same("no bridge", x.message(b, 0, 0), 0);
        }
        for (int p : Nets.NO_PORTS) {
            Check.same("no port", x.message(0, p, 0), 0);
        }
    }

    private static void everyKind() {
        BridgeNet x = new BridgeNet();
        x.priority(0, 3);
        x.priority(1, 15);
        x.link(0, 0, 1, 0);
        x.deliver(1, 0);
        x.attach(2, 1, 1, 2);
        x.attach(3, 1, 2, 1);
        x.send(2, 8, -1);
        x.send(3, 0, 7);
        Check.same("TELL", x.message(0, 0, 0), 1 + 16 * 121);
        Check.same("AGREE", x.message(0, 0, 1), 2 + 16 * 24);
        Check.same("frame for all, VLAN 2", x.message(0, 0, 2), 3 + 16 * 8 + 256 * 2);
        Check.same("frame for 0, VLAN 1", x.message(0, 0, 3), 3 + 256);
        Check.same("none", x.message(0, 0, 4), 0);
        Check.same("all stay", x.line(0, 0), 4);
    }

    private static void aPlaceIsUsedAgain() {
        BridgeNet x = Nets.pair();
        x.attach(0, 0, 1, 1);
        Nets.settle(x);
        for (int i = 0; i < 12; i++) {
            x.send(0, 5, i);
        }
        Nets.drain(x, 1, 0);
        for (int i = 0; i < 24; i++) {
            x.tick();
        }
        for (int k = 0; k < 12; k++) {
            Check.same("TELL where a frame was", x.message(1, 0, k), Nets.tell(64));
        }
    }
}
