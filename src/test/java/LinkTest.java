/** Promise 4: link. */
public final class LinkTest {
    public static void main(String[] args) {
        bothEndsAreDesignatedAndTell();
        allPairs();
        wrongInputs();
        portsInUse();
        aNewRoleIsToldEverywhere();
        Check.end();
    }

    private static void bothEndsAreDesignatedAndTell() {
        BridgeNet x = new BridgeNet();
        Check.yes("link", x.link(2, 3, 4, 1));
        Check.same("first end", x.port(2, 3), Nets.proposing(Nets.DISCARDING, 4));
        Check.same("other end", x.port(4, 1), Nets.proposing(Nets.DISCARDING, 4));
        Check.same("line of the first end", x.line(2, 3), 1);
        Check.same("line of the other end", x.line(4, 1), 1);
        Check.same("told by 4", x.message(2, 3, 0), Nets.tell(68));
        Check.same("told by 2", x.message(4, 1, 0), Nets.tell(66));
        Check.same("no info yet", x.info(2, 3), -1);
        Check.same("no info yet", x.info(4, 1), -1);
        Check.same("root", x.root(4), 68);
    }

    private static void allPairs() {
        for (int b = 0; b < 5; b++) {
            for (int c = 0; c < 5; c++) {
                BridgeNet x = new BridgeNet();
                Check.same("link " + b + " and " + c, x.link(b, 3, c, 0) ? 1 : 0, b == c ? 0 : 1);
                Check.same("port", x.port(b, 3),
                        b == c ? Nets.FREE : Nets.proposing(Nets.DISCARDING, 4));
            }
        }
    }

    private static void wrongInputs() {
        BridgeNet x = new BridgeNet();
        for (int b : Nets.NO_BRIDGES) {
            Check.no("no first bridge", x.link(b, 0, 1, 0));
            Check.no("no other bridge", x.link(1, 0, b, 0));
        }
        for (int p : Nets.NO_PORTS) {
            Check.no("no first port", x.link(0, p, 1, 0));
            Check.no("no other port", x.link(0, 0, 1, p));
        }
        Check.no("the same port", x.link(0, 0, 0, 0));
        Check.same("port after refusals", x.port(0, 0), Nets.FREE);
        Check.same("port after refusals", x.port(1, 0), Nets.FREE);
    }

    private static void portsInUse() {
        BridgeNet x = new BridgeNet();
        x.attach(0, 3, 0, 1);
        Check.yes("link", x.link(0, 0, 1, 0));
        Check.no("the same again", x.link(0, 0, 1, 0));
        Check.no("the same turned", x.link(1, 0, 0, 0));
        Check.no("first end linked", x.link(0, 0, 2, 0));
        Check.no("other end linked", x.link(2, 0, 1, 0));
        Check.no("first end a station's", x.link(3, 0, 2, 0));
        Check.no("other end a station's", x.link(2, 0, 3, 0));
        Check.same("line after refusals", x.line(1, 0), 1);
        Check.same("free still", x.port(2, 0), Nets.FREE);
        Check.yes("a second link of two bridges", x.link(0, 1, 1, 1));
    }

    private static void aNewRoleIsToldEverywhere() {
        BridgeNet x = new BridgeNet();
        x.link(0, 0, 1, 0);
        x.link(1, 1, 2, 0);
        Check.same("told of again on the first link", x.line(0, 0), 2);
        Check.same("not told from afar", x.line(1, 0), 1);
    }
}
