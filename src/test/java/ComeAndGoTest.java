/** What becomes of a port, and of its bridge, when a link or a station comes to it or goes. */
public final class ComeAndGoTest {
    public static void main(String[] args) {
        Check.sentence("When a link or station comes to a port or goes, the port has no INFO,"
                + " DISCARDING, role none, an empty line, what was learned behind it is forgotten,"
                + " and its bridge computes (of a link the one that is named first, then the other).");
        infoGoes();
        stateAndRoleGo();
        fullLinesGo();
        placesBehindItGo();
        placesBehindAStationGo();
        theLinkThatGoesIsComputedWithout();
        aNewLinkBeginsAnew();
        aStationOnAPortThatWasLinked();
        aLinkOnAPortThatHadAStation();
        bothEndsAreToldOfEachOther();
        onlyTheNamedLinkGoes();
        Check.end();
    }

    private static void infoGoes() {
        for (int end = 0; end < 2; end++) {
            BridgeNet x = Nets.pair();
            Check.yes("INFO at 0", x.info(0, 0) >= 0);
            Check.yes("INFO at 1", x.info(1, 0) >= 0);
            x.cut(end, 0);
            Check.same("none at 0", x.info(0, 0), -1);
            Check.same("none at 1", x.info(1, 0), -1);
        }
    }

    /** Of every role and state that a linked port can have. */
    private static void stateAndRoleGo() {
        for (int ticks = 0; ticks <= 8; ticks += 2) {
            BridgeNet x = new BridgeNet();
            x.link(0, 0, 1, 0);
            Nets.ticks(x, ticks);
            x.cut(0, 0);
            Check.same("after " + ticks + " ticks", x.port(0, 0), Nets.FREE);
            Check.same("after " + ticks + " ticks", x.port(1, 0), Nets.FREE);
        }
        BridgeNet x = new BridgeNet();
        x.link(0, 0, 1, 0);
        x.link(0, 1, 1, 1);
        Nets.settle(x);
        x.cut(1, 1);
        Check.same("agreed", x.port(0, 1), Nets.FREE);
        Check.same("blocked", x.port(1, 1), Nets.FREE);
        x.cut(1, 0);
        Check.same("agreed", x.port(0, 0), Nets.FREE);
        Check.same("root", x.port(1, 0), Nets.FREE);
        x.attach(0, 2, 0, 1);
        x.attach(0, 2, 1, 1);
        Check.same("a station's", x.port(2, 0), Nets.FREE);
    }

    private static void fullLinesGo() {
        BridgeNet x = new BridgeNet();
        x.link(0, 0, 1, 0);
        Nets.ticks(x, 24);
        Check.same("full", x.line(0, 0), 12);
        Check.same("full", x.line(1, 0), 12);
        x.cut(0, 0);
        for (int b = 0; b < 2; b++) {
            Check.same("empty", x.line(b, 0), 0);
            Check.same("no message", x.message(b, 0, 0), 0);
            Check.same("none to deliver", x.deliver(b, 0), 0);
            Check.no("none to lose", x.lose(b, 0));
        }
        x.link(1, 0, 0, 0);
        Check.same("only what was told now", x.line(0, 0), 1);
        Check.same("only what was told now", x.line(1, 0), 1);
    }

    /** A pair in which each bridge knows stations of both VLANs behind the link and behind a port. */
    private static BridgeNet withPlaces() {
        BridgeNet x = Nets.pair();
        for (int s = 0; s < 4; s++) {
            x.attach(s, s / 2, 1 + s % 2, 1 + s % 2);
        }
        Nets.drain(x, 1, 0);
        for (int s = 0; s < 4; s++) {
            x.send(s, 8, 1);
        }
        for (int i = 0; i < 2; i++) {
            x.deliver(0, 0);
            x.deliver(1, 0);
        }
        for (int b = 0; b < 2; b++) {
            for (int s = 0; s < 4; s++) {
                Check.same("learned", x.learned(b, s, 1 + s % 2), s / 2 == b ? 1 + s % 2 : 0);
            }
        }
        return x;
    }

    private static void placesBehindItGo() {
        for (int end = 0; end < 2; end++) {
            BridgeNet x = withPlaces();
            x.cut(end, 0);
            for (int b = 0; b < 2; b++) {
                for (int s = 0; s < 4; s++) {
                    Check.same("learned", x.learned(b, s, 1 + s % 2), s / 2 == b ? 1 + s % 2 : -1);
                }
            }
        }
    }

    private static void placesBehindAStationGo() {
        BridgeNet x = withPlaces();
        x.attach(0, 4, 0, 1);
        Check.same("its own", x.learned(0, 0, 1), -1);
        Check.same("its neighbour's", x.learned(0, 1, 2), 2);
        Check.same("behind the link", x.learned(0, 2, 1), 0);
        Check.same("another bridge still has it", x.learned(1, 0, 1), 0);
    }

    private static void theLinkThatGoesIsComputedWithout() {
        BridgeNet x = Nets.row();
        x.cut(1, 0);
        Check.same("its own root again", x.root(1), 65);
        Check.same("told to the next", x.message(2, 0, 0), Nets.tell(65));
        Check.same("the root stays its own", x.root(0), 64);
        BridgeNet y = new BridgeNet();
        y.link(0, 0, 1, 0);
        y.link(0, 1, 1, 1);
        y.set(1, 1, 20, 3);
        Nets.settle(y);
        y.cut(1, 0);
        Check.same("the other way", y.root(1), Nets.root(64, 20, 1));
        Check.same("the other port", y.port(1, 1), Nets.ROOT_PORT);
    }

    private static void aNewLinkBeginsAnew() {
        BridgeNet x = Nets.pair();
        x.cut(0, 0);
        x.link(0, 0, 1, 0);
        for (int b = 0; b < 2; b++) {
            Check.same("port", x.port(b, 0), Nets.proposing(Nets.DISCARDING, 4));
            Check.same("info", x.info(b, 0), -1);
            Check.same("line", x.line(b, 0), 1);
            Check.same("root", x.root(b), 64 + b);
        }
    }

    private static void aStationOnAPortThatWasLinked() {
        BridgeNet x = Nets.pair();
        Nets.ticks(x, 2);
        x.cut(0, 0);
        x.attach(0, 1, 0, 2);
        Check.same("port", x.port(1, 0), Nets.STATION_PORT);
        Check.same("info", x.info(1, 0), -1);
        Check.same("line", x.line(1, 0), 0);
        Check.same("root", x.root(1), 65);
        Nets.ticks(x, 2);
        Check.same("no longer told", x.line(1, 0), 0);
        Check.same("nor the other", x.line(0, 0), 0);
    }

    private static void aLinkOnAPortThatHadAStation() {
        BridgeNet x = new BridgeNet();
        x.attach(0, 0, 0, 1);
        x.attach(1, 0, 1, 1);
        x.send(0, 8, 1);
        x.attach(0, 3, 0, 1);
        x.link(1, 0, 0, 0);
        Check.same("port", x.port(0, 0), Nets.proposing(Nets.DISCARDING, 4));
        Check.same("the station is not behind it", x.learned(0, 0, 1), -1);
        x.send(1, 0, 2);
        Check.same("nothing comes to it any more", x.inbox(0, -1), 0);
    }

    private static void bothEndsAreToldOfEachOther() {
        for (int first = 0; first < 2; first++) {
            BridgeNet x = new BridgeNet();
            x.link(first, 0, 1 - first, 0);
            Check.same("0 is told", x.message(0, 0, 0), Nets.tell(65));
            Check.same("1 is told", x.message(1, 0, 0), Nets.tell(64));
            Check.same("once", x.line(0, 0), 1);
            Check.same("once", x.line(1, 0), 1);
        }
    }

    private static void onlyTheNamedLinkGoes() {
        BridgeNet x = new BridgeNet();
        x.link(0, 0, 1, 0);
        x.link(0, 1, 1, 1);
        x.attach(0, 0, 2, 1);
        Nets.settle(x);
        x.cut(0, 1);
        Check.same("the other link", x.port(0, 0), Nets.AGREED_PORT);
        Check.same("the other link", x.port(1, 0), Nets.ROOT_PORT);
        Check.yes("its INFO", x.info(1, 0) >= 0);
        Check.same("the station", x.port(0, 2), Nets.STATION_PORT);
    }
}
