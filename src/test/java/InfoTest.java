/** Promise 13: info. */
public final class InfoTest {
    private static final String ANSWER = "A port's INFO: root + 256 * cost + 65536 * 256 * bridge +"
            + " 65536 * 65536 * port, plus 2^40 times its hops, plus 2^48 times its life";
    private static final String NONE = "-1 when it has none.";

    public static void main(String[] args) {
        noSuchPort();
        none();
        onlyLinkedPorts();
        noneAnyMore();
        everyPart();
        leastAndGreatestParts();
        theCostIsTheTellers();
        Check.end();
    }

    private static void noSuchPort() {
        Check.sentence(NONE);
        BridgeNet x = new BridgeNet();
        x.link(0, 0, 4, 3);
        x.link(0, 3, 4, 0);
        x.deliver(0, 0);
        x.deliver(4, 3);
        x.deliver(4, 0);
        for (int b : Nets.NO_BRIDGES) {
            Check.same("bridge " + b, x.info(b, 0), -1);
            Check.same("bridge " + b, x.info(b, 3), -1);
        }
        for (int p : Nets.NO_PORTS) {
            Check.same("port " + p, x.info(0, p), -1);
            Check.same("port " + p, x.info(4, p), -1);
        }
        Check.same("the first", x.info(0, 0), Nets.info(68, 0, 68, 3, 0));
        Check.same("the last", x.info(4, 3), Nets.info(64, 0, 64, 0, 0));
        Check.same("the last bridge", x.info(4, 0), Nets.info(64, 0, 64, 3, 0));
    }

    private static void none() {
        Check.sentence(NONE);
        BridgeNet x = new BridgeNet();
        x.link(0, 0, 1, 0);
        Check.same("linked, nothing has come", x.info(0, 0), -1);
        x.lose(0, 0);
        Check.same("what came was lost", x.info(0, 0), -1);
        Nets.ticks(x, 2);
        x.deliver(0, 0);
        Check.yes("told", x.info(0, 0) >= 0);
    }

    private static void onlyLinkedPorts() {
        Check.sentence("A linked port may hold INFO: a vector, its HOPS and its LIFE in ticks.");
        BridgeNet x = Nets.pair();
        x.attach(0, 1, 1, 1);
        x.send(0, 8, 1);
        Nets.ticks(x, 2);
        Check.same("linked", x.info(1, 0), Nets.info(64, 0, 64, 0, 0, 4));
        Check.same("station", x.info(1, 1), -1);
        Check.same("free", x.info(1, 2), -1);
    }

    private static void noneAnyMore() {
        Check.sentence(NONE);
        BridgeNet x = Nets.pair();
        x.cut(0, 0);
        Check.same("after a cut", x.info(1, 0), -1);
        x.attach(0, 1, 0, 1);
        Check.same("a station where the link was", x.info(1, 0), -1);
        BridgeNet y = Nets.pair();
        Nets.ticks(y, 6);
        Check.same("after six ticks", y.info(1, 0), -1);
        y.deliver(1, 0);
        Check.same("told anew", y.info(1, 0), Nets.info(64, 0, 64, 0, 0));
    }

    private static void everyPart() {
        Check.sentence(ANSWER);
        BridgeNet x = new BridgeNet();
        x.priority(3, 2);
        x.priority(4, 15);
        x.set(0, 3, 50, 3);
        x.link(3, 1, 0, 3);
        x.link(0, 2, 4, 3);
        Nets.settle(x);
        Check.same("of the root", x.info(0, 3), 19 + (19L << 24) + (1L << 32) + (6L << 48));
        Check.same("from one hop away", x.info(4, 3),
                19 + 256L * 50 + (64L << 24) + (2L << 32) + (1L << 40) + (6L << 48));
        x.tick();
        Check.same("a tick later", x.info(4, 3), Nets.info(19, 50, 64, 2, 1, 5));
        Check.same("heard before 4 knew the root", x.info(0, 2), Nets.info(124, 0, 124, 3, 0, 5));
    }

    private static void leastAndGreatestParts() {
        Check.sentence(ANSWER);
        BridgeNet x = new BridgeNet();
        x.priority(0, 0);
        x.priority(4, 15);
        x.link(0, 0, 4, 3);
        x.deliver(0, 0);
        x.deliver(4, 3);
        Nets.ticks(x, 5);
        Check.same("root 0, port 0, hops 0, life 1", x.info(4, 3), 1L << 48);
        Check.same("root and bridge 124, port 3", x.info(0, 0),
                124 + (124L << 24) + (3L << 32) + (1L << 48));
        BridgeNet y = Nets.fiveHopsAway(50);
        y.deliver(2, 1);
        Check.same("cost 250, hops 5, life 6", y.info(2, 1),
                64 + 256L * 250 + (65L << 24) + (2L << 32) + (5L << 40) + (6L << 48));
    }

    private static void theCostIsTheTellers() {
        Check.sentence(ANSWER);
        BridgeNet x = Nets.pair();
        x.set(1, 0, 40, 3);
        Check.same("not with the port's own cost", x.info(1, 0), Nets.info(64, 0, 64, 0, 0));
    }
}
