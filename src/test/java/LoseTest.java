/** Promise 9: lose. */
public final class LoseTest {
    public static void main(String[] args) {
        theFirstIsLost();
        itDoesNothing();
        none();
        Check.end();
    }

    private static void theFirstIsLost() {
        BridgeNet x = Nets.pair();
        x.attach(0, 1, 1, 1);
        x.send(0, 8, 1);
        x.send(0, 5, 2);
        x.send(0, 6, 3);
        Check.yes("lose", x.lose(0, 0));
        Check.same("the second is first now", x.message(0, 0, 0), Nets.frame(5, 1));
        Check.same("the third is second now", x.message(0, 0, 1), Nets.frame(6, 1));
        Check.same("line", x.line(0, 0), 2);
        Check.yes("lose", x.lose(0, 0));
        Check.yes("lose", x.lose(0, 0));
        Check.no("lose", x.lose(0, 0));
        Check.same("line", x.line(0, 0), 0);
    }

    private static void itDoesNothing() {
        BridgeNet x = new BridgeNet();
        x.link(0, 0, 1, 0);
        Check.yes("lose a TELL", x.lose(1, 0));
        Check.same("no info", x.info(1, 0), -1);
        Check.same("its own root", x.root(1), 65);
        Check.same("the other line stays", x.line(0, 0), 1);
        Check.same("nothing is left", x.deliver(1, 0), 0);
    }

    private static void none() {
        BridgeNet x = Nets.pair();
        x.attach(0, 0, 1, 1);
        x.lose(1, 0);
        Check.no("empty line", x.lose(1, 0));
        Check.no("station's port", x.lose(0, 1));
        Check.no("free port", x.lose(0, 2));
        for (int b : Nets.NO_BRIDGES) {
            Check.no("no bridge", x.lose(b, 0));
        }
        for (int p : Nets.NO_PORTS) {
            Check.no("no port", x.lose(0, p));
        }
    }
}
