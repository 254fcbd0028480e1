/** Promise 9: lose. */
public final class LoseTest {
    private static final String NONE = "False when there is none (or no such port).";

    public static void main(String[] args) {
        theFirstIsLost();
        itDoesNothing();
        none();
        allOfAFullLine();
        noSuchPort();
        Check.end();
    }

    private static void theFirstIsLost() {
        Check.sentence("The first message in a line is lost: true.");
        BridgeNet x = Nets.pair();
        x.attach(0, 1, 1, 1);
        x.send(0, 8, 1);
        x.send(0, 5, 2);
        x.send(0, 6, 3);
        Check.yes("lose", x.lose(0, 0));
        Check.same("the second is first now", x.message(0, 0, 0), Nets.frame(5, 1));
        Check.same("the third is second now", x.message(0, 0, 1), Nets.frame(6, 1));
        Check.same("line", x.line(0, 0), 2);
        Check.yes("lose", x.lose(0, 0));
        Check.yes("lose", x.lose(0, 0));
        Check.no("lose", x.lose(0, 0));
        Check.same("line", x.line(0, 0), 0);
    }

    private static void itDoesNothing() {
        Check.sentence("The first message in a line is lost: true.");
        BridgeNet x = new BridgeNet();
        x.link(0, 0, 1, 0);
        Check.yes("lose a TELL", x.lose(1, 0));
        Check.same("no info", x.info(1, 0), -1);
        Check.same("its own root", x.root(1), 65);
        Check.same("the other line stays", x.line(0, 0), 1);
        Check.same("nothing is left", x.deliver(1, 0), 0);
    }

    private static void none() {
        Check.sentence(NONE);
        BridgeNet x = Nets.pair();
        x.attach(0, 0, 1, 1);
        Check.yes("the last one", x.lose(1, 0));
        Check.no("an empty line", x.lose(1, 0));
        Check.same("line", x.line(1, 0), 0);
        Check.no("a station's port", x.lose(0, 1));
        Check.no("a free port", x.lose(0, 2));
        Nets.ticks(x, 2);
        Check.same("one more", x.line(1, 0), 1);
        x.cut(1, 0);
        Check.no("a line that went with its link", x.lose(1, 0));
    }

    private static void allOfAFullLine() {
        Check.sentence(NONE);
        BridgeNet x = Nets.pair();
        Nets.ticks(x, 24);
        for (int left = 12; left > 0; left--) {
            Check.same("line", x.line(1, 0), left);
            Check.yes("lose", x.lose(1, 0));
        }
        Check.no("a thirteenth", x.lose(1, 0));
        Check.same("line", x.line(1, 0), 0);
    }

    private static void noSuchPort() {
        Check.sentence(NONE);
        BridgeNet x = new BridgeNet();
        x.link(0, 0, 4, 3);
        x.link(0, 3, 4, 0);
        for (int b : Nets.NO_BRIDGES) {
            Check.no("bridge " + b, x.lose(b, 0));
        }
        for (int p : Nets.NO_PORTS) {
            Check.no("port " + p, x.lose(0, p));
            Check.no("port " + p, x.lose(4, p));
        }
        Check.yes("the first", x.lose(0, 0));
        Check.yes("the last", x.lose(4, 3));
        Check.yes("the last port", x.lose(0, 3));
        Check.yes("the last bridge", x.lose(4, 0));
    }
}
