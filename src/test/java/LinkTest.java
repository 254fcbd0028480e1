/** Promise 4: link. */
public final class LinkTest {
    private static final String REFUSALS = "False when there are no such ports, one is not free, or"
            + " b is c.";

    public static void main(String[] args) {
        bothEndsAreDesignatedAndTell();
        allPairs();
        noSuchPorts();
        notFree();
        withinOneBridge();
        aNewRoleIsToldEverywhere();
        Check.end();
    }

    private static void bothEndsAreDesignatedAndTell() {
        Check.sentence("A link between port p of bridge b and port q of bridge c.");
        BridgeNet x = new BridgeNet();
        Check.yes("link", x.link(2, 3, 4, 1));
        Check.same("first end", x.port(2, 3), Nets.proposing(Nets.DISCARDING, 4));
        Check.same("other end", x.port(4, 1), Nets.proposing(Nets.DISCARDING, 4));
        Check.same("line of the first end", x.line(2, 3), 1);
        Check.same("line of the other end", x.line(4, 1), 1);
        Check.same("told by 4", x.message(2, 3, 0), Nets.tell(68));
        Check.same("told by 2", x.message(4, 1, 0), Nets.tell(66));
        Check.same("no info yet", x.info(2, 3), -1);
        Check.same("no info yet", x.info(4, 1), -1);
        Check.same("root", x.root(4), 68);
    }

    private static void allPairs() {
        Check.sentence("A link between port p of bridge b and port q of bridge c.");
        for (int b = 0; b < 5; b++) {
            for (int c = 0; c < 5; c++) {
                BridgeNet x = new BridgeNet();
                Check.same("link " + b + " and " + c, x.link(b, 3, c, 0) ? 1 : 0, b == c ? 0 : 1);
                Check.same("port", x.port(b, 3),
                        b == c ? Nets.FREE : Nets.proposing(Nets.DISCARDING, 4));
            }
        }
    }

    private static void noSuchPorts() {
        Check.sentence(REFUSALS);
        BridgeNet x = new BridgeNet();
        for (int b : Nets.NO_BRIDGES) {
            Check.no("from bridge " + b, x.link(b, 0, 1, 0));
            Check.no("to bridge " + b, x.link(1, 0, b, 0));
            Check.no("from and to bridge " + b, x.link(b, 0, b, 1));
        }
        for (int p : Nets.NO_PORTS) {
            Check.no("from port " + p, x.link(0, p, 1, 0));
            Check.no("to port " + p, x.link(0, 0, 1, p));
        }
        for (int b = 0; b < 5; b++) {
            for (int p = 0; p < 4; p++) {
                Check.same("free still", x.port(b, p), Nets.FREE);
            }
        }
        Check.yes("the first to the last", x.link(0, 0, 4, 3));
        Check.yes("the last to the first", x.link(4, 0, 0, 3));
    }

    private static void notFree() {
        Check.sentence(REFUSALS);
        BridgeNet x = new BridgeNet();
        x.attach(0, 3, 0, 1);
        Check.yes("link", x.link(0, 0, 1, 0));
        Check.no("the same again", x.link(0, 0, 1, 0));
        Check.no("the same turned", x.link(1, 0, 0, 0));
        Check.no("first end linked", x.link(0, 0, 2, 0));
        Check.no("other end linked", x.link(2, 0, 1, 0));
        Check.no("first end a station's", x.link(3, 0, 2, 0));
        Check.no("other end a station's", x.link(2, 0, 3, 0));
        Check.no("a station's and a linked one", x.link(3, 0, 0, 0));
        Check.same("line after refusals", x.line(1, 0), 1);
        Check.same("free still", x.port(2, 0), Nets.FREE);
        Check.same("the station stays", x.port(3, 0), Nets.STATION_PORT);
        Check.yes("a second link of two bridges", x.link(0, 1, 1, 1));
    }

    private static void withinOneBridge() {
        Check.sentence(REFUSALS);
        for (int b = 0; b < 5; b++) {
            BridgeNet x = new BridgeNet();
            for (int p = 0; p < 4; p++) {
                for (int q = 0; q < 4; q++) {
                    Check.no("ports " + p + " and " + q + " of " + b, x.link(b, p, b, q));
                }
            }
            Check.same("free still", x.port(b, 0), Nets.FREE);
            Check.yes("with the next bridge", x.link(b, 0, (b + 1) % 5, 0));
        }
    }

    private static void aNewRoleIsToldEverywhere() {
        Check.sentence("A link between port p of bridge b and port q of bridge c.");
        BridgeNet x = new BridgeNet();
        x.link(0, 0, 1, 0);
        x.link(1, 1, 2, 0);
        Check.same("told of again on the first link", x.line(0, 0), 2);
        Check.same("not told from afar", x.line(1, 0), 1);
    }
}
