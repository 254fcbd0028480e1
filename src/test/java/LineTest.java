/** Promise 16: line. */
public final class LineTest {
    private static final String COUNT = "How many messages are in a line";

    public static void main(String[] args) {
        noSuchPort();
        emptyToFullAndBack();
        oneMoreThanTwelveIsLost();
        roomAgain();
        Check.end();
    }

    private static void noSuchPort() {
        Check.sentence("-1 when there is no such port.");
        BridgeNet x = new BridgeNet();
        x.link(0, 0, 4, 3);
        x.link(0, 3, 4, 0);
        for (int b : Nets.NO_BRIDGES) {
            Check.same("bridge " + b, x.line(b, 0), -1);
            Check.same("bridge " + b, x.line(b, 3), -1);
        }
        for (int p : Nets.NO_PORTS) {
            Check.same("port " + p, x.line(0, p), -1);
            Check.same("port " + p, x.line(4, p), -1);
        }
        Check.same("the first", x.line(0, 0), 2);
        Check.same("the last", x.line(4, 3), 2);
    }

    private static void emptyToFullAndBack() {
        Check.sentence(COUNT);
        BridgeNet x = new BridgeNet();
        Check.same("free", x.line(0, 0), 0);
        x.attach(0, 0, 1, 1);
        Check.same("station", x.line(0, 1), 0);
        x.link(0, 0, 1, 0);
        for (int n = 1; n <= 12; n++) {
            Check.same("coming", x.line(0, 0), n);
            Nets.ticks(x, 2);
        }
        Check.same("full", x.line(0, 0), 12);
        for (int n = 11; n >= 0; n--) {
            if (n % 2 == 0) {
                x.deliver(0, 0);
            } else {
                x.lose(0, 0);
            }
            Check.same("going", x.line(0, 0), n);
        }
        x.deliver(0, 0);
        x.lose(0, 0);
        Check.same("empty", x.line(0, 0), 0);
    }

    private static void oneMoreThanTwelveIsLost() {
        Check.sentence(COUNT);
        BridgeNet x = Nets.pair();
        x.attach(0, 0, 1, 1);
        Nets.drain(x, 1, 0);
        for (int i = 0; i < 14; i++) {
            x.send(0, i % 7 + 1, i);
            Check.same("line", x.line(1, 0), Math.min(i + 1, 12));
        }
        Nets.ticks(x, 2);
        Check.same("a TELL is lost too", x.line(1, 0), 12);
        for (int k = 0; k < 12; k++) {
            Check.same("the first twelve", x.message(1, 0, k), Nets.frame(k % 7 + 1, 1));
        }
    }

    private static void roomAgain() {
        Check.sentence(COUNT);
        BridgeNet x = Nets.pair();
        x.attach(0, 0, 1, 1);
        x.attach(1, 1, 1, 1);
        Nets.drain(x, 1, 0);
        for (int i = 0; i < 12; i++) {
            x.send(0, 2, i);
        }
        for (int i = 12; i < 35; i++) {
            Check.same("deliver", x.deliver(1, 0), Nets.FRAME);
            Check.same("one less", x.line(1, 0), 11);
            x.send(0, 2, i);
            Check.same("full again", x.line(1, 0), 12);
        }
        for (int k = 0; k < 23; k++) {
            Check.same("in their order", x.inbox(1, k), Nets.kept(0, 2, k));
        }
        Check.same("no more", x.inbox(1, -1), 23);
    }
}
