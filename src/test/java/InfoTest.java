/** Promise 13: info. */
public final class InfoTest {
    public static void main(String[] args) {
        none();
        everyPart();
        theCostIsTheTellers();
        Check.end();
    }

    private static void none() {
        BridgeNet x = new BridgeNet();
        x.link(0, 0, 1, 0);
        x.attach(0, 0, 1, 1);
        Check.same("linked, nothing told", x.info(0, 0), -1);
        Check.same("station", x.info(0, 1), -1);
        Check.same("free", x.info(0, 2), -1);
        for (int b : Nets.NO_BRIDGES) {
            Check.same("no bridge", x.info(b, 0), -1);
        }
        for (int p : Nets.NO_PORTS) {
            Check.same("no port", x.info(0, p), -1);
        }
    }

    private static void everyPart() {
        BridgeNet x = new BridgeNet();
        x.priority(3, 2);
        x.priority(4, 15);
        x.set(0, 3, 50, 3);
        x.link(3, 1, 0, 3);
        x.link(0, 2, 4, 3);
        Nets.settle(x);
        Check.same("of the root", x.info(0, 3), 19 + (19L << 24) + (1L << 32) + (6L << 48));
        Check.same("from one hop away", x.info(4, 3),
                19 + 256L * 50 + (64L << 24) + (2L << 32) + (1L << 40) + (6L << 48));
        x.tick();
        Check.same("a tick later", x.info(4, 3), Nets.info(19, 50, 64, 2, 1, 5));
        Check.same("heard before 4 knew the root", x.info(0, 2), Nets.info(124, 0, 124, 3, 0, 5));
    }

    private static void theCostIsTheTellers() {
        BridgeNet x = Nets.pair();
        x.set(1, 0, 40, 3);
        Check.same("not with the port's own cost", x.info(1, 0), Nets.info(64, 0, 64, 0, 0));
    }
}
