/** Promise 16: line. */
public final class LineTest {
    public static void main(String[] args) {
        noSuchPort();
        counts();
        oneMoreThanTwelveIsLost();
        roomAgain();
        Check.end();
    }

    private static void noSuchPort() {
        BridgeNet x = new BridgeNet();
        for (int b : Nets.NO_BRIDGES) {
            Check.same("no bridge", x.line(b, 0), -1);
        }
        for (int p : Nets.NO_PORTS) {
            Check.same("no port", x.line(0, p), -1);
        }
    }

    private static void counts() {
        BridgeNet x = new BridgeNet();
        x.attach(0, 0, 1, 1);
        x.link(0, 0, 1, 0);
        Check.same("linked", x.line(0, 0), 1);
        Check.same("station", x.line(0, 1), 0);
        Check.same("free", x.line(0, 2), 0);
        x.tick();
        x.tick();
        Check.same("one more", x.line(0, 0), 2);
        x.deliver(0, 0);
        Check.same("one less", x.line(0, 0), 1);
        x.lose(0, 0);
        Check.same("none", x.line(0, 0), 0);
    }

    private static void oneMoreThanTwelveIsLost() {
        BridgeNet x = Nets.pair();
        x.attach(0, 0, 1, 1);
        Nets.drain(x, 1, 0);
        for (int i = 0; i < 14; i++) {
            x.send(0, i % 7 + 1, i);
            Check.same("line", x.line(1, 0), Math.min(i + 1, 12));
        }
        x.tick();
        x.tick();
        Check.same("a TELL is lost too", x.line(1, 0), 12);
        for (int k = 0; k < 12; k++) {
            Check.same("the first twelve", x.message(1, 0, k), Nets.frame(k % 7 + 1, 1));
        }
    }

    private static void roomAgain() {
        BridgeNet x = Nets.pair();
        x.attach(0, 0, 1, 1);
        x.attach(1, 1, 1, 1);
        Nets.drain(x, 1, 0);
        for (int i = 0; i < 12; i++) {
            x.send(0, 2, i);
        }
        for (int i = 12; i < 35; i++) {
            Check.same("deliver", x.deliver(1, 0), Nets.FRAME);
            x.send(0, 2, i);
            Check.same("full again", x.line(1, 0), 12);
        }
        for (int k = 0; k < 23; k++) {
            Check.same("in their order", x.inbox(1, k), Nets.kept(0, 2, k));
        }
        Check.same("no more", x.inbox(1, -1), 23);
    }
}
