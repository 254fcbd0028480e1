/** Promise 5: cut. */
public final class CutTest {
    private static final String COMES_OR_GOES = "When a link or station comes to a port or goes, the"
            + " port has no INFO, DISCARDING, role none, an empty line, what was learned behind it is"
            + " forgotten, and its bridge computes";

    public static void main(String[] args) {
        bothPortsAreFree(0, 0);
        bothPortsAreFree(1, 0);
        proposingGoesWithTheLink();
        noSuchPort();
        noLink();
        learnedPlacesBehindIt();
        theRootIsLost();
        theOtherWayIsTaken();
        linkedAnew();
        Check.end();
    }

    private static void bothPortsAreFree(int b, int p) {
        Check.sentence("The link of port p of bridge b goes: both ports are free.");
        BridgeNet x = Nets.pair();
        x.tick();
        x.tick();
        Check.same("a line before", x.line(1, 0), 1);
        Check.yes("cut", x.cut(b, p));
        for (int c = 0; c < 2; c++) {
            Check.same("port", x.port(c, 0), Nets.FREE);
            Check.same("line", x.line(c, 0), 0);
            Check.same("info", x.info(c, 0), -1);
            Check.same("root", x.root(c), 64 + c);
            Check.same("no message", x.message(c, 0, 0), 0);
            Check.same("nothing to deliver", x.deliver(c, 0), 0);
        }
        Check.no("cut again", x.cut(b, p));
        Check.no("cut the other end", x.cut(1 - b, p));
    }

    private static void proposingGoesWithTheLink() {
        Check.sentence(COMES_OR_GOES);
        BridgeNet x = new BridgeNet();
        x.link(0, 0, 1, 0);
        x.cut(0, 0);
        Check.same("port", x.port(0, 0), Nets.FREE);
        Nets.ticks(x, 9);
        Check.same("port after ticks", x.port(0, 0), Nets.FREE);
    }

    private static void noSuchPort() {
        Check.sentence("False when it has none.");
        BridgeNet x = new BridgeNet();
        x.link(0, 0, 4, 3);
        x.link(0, 3, 4, 0);
        for (int b : Nets.NO_BRIDGES) {
            Check.no("bridge " + b, x.cut(b, 0));
        }
        for (int p : Nets.NO_PORTS) {
            Check.no("port " + p, x.cut(0, p));
            Check.no("port " + p, x.cut(4, p));
        }
        Check.same("linked still", x.port(0, 0), Nets.proposing(Nets.DISCARDING, 4));
        Check.same("linked still", x.port(4, 0), Nets.proposing(Nets.DISCARDING, 4));
        Check.yes("the first", x.cut(0, 0));
        Check.yes("the last port", x.cut(0, 3));
    }

    private static void noLink() {
        Check.sentence("False when it has none.");
        BridgeNet x = Nets.pair();
        x.attach(0, 0, 1, 1);
        Check.no("a free port", x.cut(0, 2));
        Check.no("a station's port", x.cut(0, 1));
        Check.same("the station stays", x.port(0, 1), Nets.STATION_PORT);
        Check.same("the link stays", x.port(1, 0), Nets.ROOT_PORT);
        Check.yes("a linked port", x.cut(0, 0));
        Check.no("one that was linked", x.cut(0, 0));
        Check.no("its other end", x.cut(1, 0));
        x.attach(1, 1, 0, 1);
        Check.no("a station where the link was", x.cut(1, 0));
    }

    private static void learnedPlacesBehindIt() {
        Check.sentence(COMES_OR_GOES);
        BridgeNet x = Nets.row();
        x.attach(0, 0, 0, 1);
        x.attach(1, 2, 1, 1);
        x.attach(2, 1, 2, 2);
        x.send(0, 8, 1);
        x.send(1, 8, 1);
        x.send(2, 8, 1);
        Nets.settle(x);
        Check.same("learned behind port 0", x.learned(1, 0, 1), 0);
        Check.same("learned behind port 1", x.learned(1, 1, 1), 1);
        Check.same("learned behind port 2", x.learned(1, 2, 2), 2);
        Check.yes("cut", x.cut(1, 1));
        Check.same("others' places stay", x.learned(1, 0, 1), 0);
        Check.same("behind the link: forgotten", x.learned(1, 1, 1), -1);
        Check.same("stations' places stay", x.learned(1, 2, 2), 2);
        Check.same("forgotten at the other end", x.learned(2, 0, 1), -1);
        Check.same("forgotten at the other end", x.learned(2, 2, 2), -1);
        Check.same("its own station stays", x.learned(2, 1, 1), 1);
    }

    private static void theRootIsLost() {
        Check.sentence(COMES_OR_GOES);
        BridgeNet x = Nets.row();
        Check.yes("cut", x.cut(0, 1));
        Check.same("its own root", x.root(1), 65);
        Check.same("told onwards", x.message(2, 0, 0), Nets.tell(65));
        Nets.settle(x);
        Check.same("root of 2", x.root(2), Nets.root(65, 10, 1));
    }

    private static void theOtherWayIsTaken() {
        Check.sentence(COMES_OR_GOES);
        BridgeNet x = new BridgeNet();
        x.link(0, 0, 1, 0);
        x.link(0, 1, 1, 1);
        x.set(1, 1, 20, 3);
        Nets.settle(x);
        Check.same("blocked", x.port(1, 1), Nets.BLOCKED_PORT);
        Check.yes("cut", x.cut(0, 0));
        Check.same("root port at once", x.port(1, 1), Nets.ROOT_PORT);
        Check.same("root", x.root(1), Nets.root(64, 20, 1));
    }

    private static void linkedAnew() {
        Check.sentence("The link of port p of bridge b goes: both ports are free.");
        BridgeNet x = Nets.pair();
        x.cut(0, 0);
        Check.yes("linked elsewhere", x.link(2, 0, 0, 0));
        Check.same("port", x.port(0, 0), Nets.proposing(Nets.DISCARDING, 4));
        Check.same("no old info", x.info(0, 0), -1);
        x.attach(0, 1, 0, 1);
        Check.same("a station where the link was", x.port(1, 0), Nets.STATION_PORT);
    }
}
