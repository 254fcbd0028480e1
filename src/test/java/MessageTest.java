/** Promise 17: message. */
public final class MessageTest {
    private static final String ANSWER = "Message k, from 0, of a line: 1 TELL, 2 AGREE, 3 a frame;"
            + " plus 16 times its root (an AGREE, a TELL), or 16 times the destination plus 256 times"
            + " the VLAN (a frame)";
    private static final String NONE = "0 when there is none.";

    public static void main(String[] args) {
        noSuchPort();
        noSuchMessage();
        emptyLine();
        fullLine();
        everyKind();
        leastAndGreatest();
        aPlaceIsUsedAgain();
        Check.end();
    }

    private static void noSuchPort() {
        Check.sentence(NONE);
        BridgeNet x = new BridgeNet();
        x.link(0, 0, 4, 3);
        x.link(0, 3, 4, 0);
        for (int b : Nets.NO_BRIDGES) {
            Check.same("bridge " + b, x.message(b, 0, 0), 0);
            Check.same("bridge " + b, x.message(b, 3, 0), 0);
        }
        for (int p : Nets.NO_PORTS) {
            Check.same("port " + p, x.message(0, p, 0), 0);
            Check.same("port " + p, x.message(4, p, 0), 0);
        }
        Check.same("the first", x.message(0, 0, 0), Nets.tell(68));
        Check.same("the last", x.message(4, 3, 0), Nets.tell(64));
    }

    private static void noSuchMessage() {
        Check.sentence(NONE);
        BridgeNet x = new BridgeNet();
        x.link(0, 0, 1, 0);
        Check.same("message 0", x.message(0, 0, 0), Nets.tell(65));
        for (int k : new int[] {-1, 1, 11, 12, 13, Integer.MIN_VALUE, Integer.MAX_VALUE}) {
            Check.same("message " + k, x.message(0, 0, k), 0);
        }
    }

    private static void emptyLine() {
        Check.sentence(NONE);
        BridgeNet x = Nets.pair();
        x.attach(0, 0, 1, 1);
        for (int k : new int[] {-1, 0, 1, 11, 12, Integer.MIN_VALUE, Integer.MAX_VALUE}) {
            Check.same("empty, message " + k, x.message(0, 0, k), 0);
            Check.same("station's port, message " + k, x.message(0, 1, k), 0);
            Check.same("free port, message " + k, x.message(0, 2, k), 0);
        }
        x.deliver(1, 0);
        Check.same("one that has come is gone", x.message(1, 0, 0), 0);
        Nets.ticks(x, 2);
        x.cut(0, 0);
        Check.same("gone with the link", x.message(1, 0, 0), 0);
    }

    private static void fullLine() {
        Check.sentence(NONE);
        BridgeNet x = Nets.pair();
        Nets.ticks(x, 26);
        for (int k = 0; k < 12; k++) {
            Check.same("message " + k, x.message(1, 0, k), Nets.tell(64));
        }
        for (int k : new int[] {-1, 12, 13, Integer.MIN_VALUE, Integer.MAX_VALUE}) {
            Check.same("message " + k, x.message(1, 0, k), 0);
        }
    }

    private static void everyKind() {
        Check.sentence(ANSWER);
        BridgeNet x = new BridgeNet();
        x.priority(0, 3);
        x.priority(1, 15);
        x.link(0, 0, 1, 0);
        x.deliver(1, 0);
        x.attach(2, 1, 1, 2);
        x.attach(3, 1, 2, 1);
        x.send(2, 8, -1);
        x.send(3, 0, 7);
        Check.same("TELL", x.message(0, 0, 0), 1 + 16 * 121);
        Check.same("AGREE", x.message(0, 0, 1), 2 + 16 * 24);
        Check.same("frame for all, VLAN 2", x.message(0, 0, 2), 3 + 16 * 8 + 256 * 2);
        Check.same("frame for 0, VLAN 1", x.message(0, 0, 3), 3 + 256);
        Check.same("none", x.message(0, 0, 4), 0);
        Check.same("all stay", x.line(0, 0), 4);
    }

    private static void leastAndGreatest() {
        Check.sentence(ANSWER);
        BridgeNet x = new BridgeNet();
        x.priority(0, 0);
        x.priority(4, 15);
        x.link(0, 0, 4, 0);
        Check.same("TELL of root 0", x.message(4, 0, 0), 1);
        Check.same("TELL of root 124", x.message(0, 0, 0), 1 + 16 * 124);
        x.deliver(4, 0);
        Check.same("AGREE with root 0", x.message(0, 0, 1), 2);
        BridgeNet y = new BridgeNet();
        y.priority(3, 15);
        y.priority(4, 15);
        y.link(3, 0, 4, 0);
        y.deliver(4, 0);
        Check.same("AGREE with root 123", y.message(3, 0, 1), 2 + 16 * 123);
        y.attach(0, 4, 1, 1);
        y.send(0, 7, 1);
        Check.same("frame for the last station", y.message(3, 0, 2), 3 + 16 * 7 + 256);
    }

    private static void aPlaceIsUsedAgain() {
        Check.sentence(ANSWER);
        BridgeNet x = Nets.pair();
        x.attach(0, 0, 1, 1);
        Nets.settle(x);
        for (int i = 0; i < 12; i++) {
            x.send(0, 5, i);
        }
        Nets.drain(x, 1, 0);
        Nets.ticks(x, 24);
        for (int k = 0; k < 12; k++) {
            Check.same("TELL where a frame was", x.message(1, 0, k), Nets.tell(64));
        }
        Nets.drain(x, 1, 0);
        for (int i = 0; i < 12; i++) {
            x.send(0, 6, i);
        }
        for (int k = 0; k < 12; k++) {
            Check.same("a frame where a TELL was", x.message(1, 0, k), Nets.frame(6, 1));
        }
    }
}
