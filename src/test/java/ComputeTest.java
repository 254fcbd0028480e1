/**
 * How a bridge computes: its root, the roles of its ports, and when it tells. That of equal
 * candidates the least port's counts can never show: two ports never have the same other end.
 */
public final class ComputeTest {
    public static void main(String[] args) {
        nobodyElse();
        ownRootHeardBack();
        aHopMore();
        rootBeforeCost();
        costBeforeBridge();
        bridgeBeforePort();
        portAtLast();
        theBestCandidateCounts();
        noRootPort();
        rolesOfPorts();
        designatedOrBlocked();
        becomingRoot();
        becomingBlocked();
        becomingDesignated();
        aRoleThatStays();
        rootAloneIsTold();
        costAloneIsTold();
        hopsAloneAreTold();
        aRoleAloneIsTold();
        noChangeIsNotTold();
        Check.end();
    }

    private static void nobodyElse() {
        Check.sentence("candidates are its own vector (own ID, 0, own ID, 0) with hops 0");
        BridgeNet x = new BridgeNet();
        Check.same("no INFO anywhere", x.root(4), Nets.root(68, 0, 0));
        x.link(3, 0, 4, 0);
        x.deliver(3, 0);
        Check.same("INFO of a worse root", x.root(3), Nets.root(67, 0, 0));
        Check.same("no port is the root port", x.port(3, 0), Nets.proposing(Nets.DISCARDING, 4));
    }

    /** The same root as its own, but at a cost: the own vector is the lesser. */
    private static void ownRootHeardBack() {
        Check.sentence("candidates are its own vector (own ID, 0, own ID, 0) with hops 0");
        BridgeNet x = new BridgeNet();
        x.set(0, 1, 1, 3);
        x.set(1, 0, 1, 3);
        x.set(2, 0, 1, 3);
        x.link(0, 0, 1, 0);
        x.link(1, 1, 2, 0);
        x.link(2, 1, 0, 1);
        x.deliver(1, 0);
        while (x.line(2, 0) > 0) {
            x.deliver(2, 0);
        }
        while (x.line(0, 1) > 0) {
            x.deliver(0, 1);
        }
        Check.same("INFO of its own root", x.info(0, 1), Nets.info(64, 2, 66, 1, 2));
        Check.same("root", x.root(0), Nets.root(64, 0, 0));
        Check.same("designated", x.port(0, 1), Nets.proposing(Nets.DISCARDING, 4));
    }

    private static void aHopMore() {
        Check.sentence("(root, cost + the port's cost, bridge, port), with a hop more");
        BridgeNet x = Nets.row();
        Check.same("the root", x.root(0), Nets.root(64, 0, 0));
        Check.same("next to it", x.root(1), Nets.root(64, 10, 1));
        Check.same("one more", x.root(2), Nets.root(64, 20, 2));
    }

    private static void vectorSentence() {
        Check.sentence("VECTORS are (root's ID, cost, bridge's ID, port), in this order of"
                + " importance; the lesser one is better.");
    }

    /** Bridge 4 between two roots whose IDs differ by 1, the better one as far away as can be. */
    private static void rootBeforeCost() {
        vectorSentence();
        for (int better = 1; better <= 2; better++) {
            BridgeNet x = new BridgeNet();
            x.priority(better, better == 1 ? 8 : 7);
            x.set(4, better, 50, 3);
            x.set(4, 3 - better, 1, 3);
            x.link(4, 1, 1, 0);
            x.link(4, 2, 2, 0);
            Nets.settle(x);
            Check.same("the lesser root", x.root(4), Nets.root(better == 1 ? 65 : 58, 50, 1));
            Check.same("root port", x.port(4, better), Nets.ROOT_PORT);
            Check.same("the other way", x.port(4, 3 - better), Nets.AGREED_PORT);
        }
    }

    /** Bridge 3 hears of the root from 1 and from 2; which of its ports is the root port. */
    private static int rootPortOf3(int costOver1, int costOver2) {
        BridgeNet x = new BridgeNet();
        x.set(3, 1, costOver1, 3);
        x.set(3, 0, costOver2, 3);
        x.link(0, 0, 1, 0);
        x.link(0, 1, 2, 0);
        x.link(2, 1, 3, 0);
        x.link(1, 1, 3, 1);
        Nets.settle(x);
        int port = x.port(3, 0) == Nets.ROOT_PORT ? 0 : 1;
        Check.same("root port", x.port(3, port), Nets.ROOT_PORT);
        Check.same("blocked", x.port(3, 1 - port), Nets.BLOCKED_PORT);
        Check.same("root", x.root(3), Nets.root(64, 10 + Math.min(costOver1, costOver2), 2));
        return port;
    }

    private static void costBeforeBridge() {
        vectorSentence();
        Check.same("one dearer over the lesser bridge", rootPortOf3(11, 10), 0);
        Check.same("one cheaper over the lesser bridge", rootPortOf3(9, 10), 1);
        Check.same("the greatest difference", rootPortOf3(50, 1), 0);

        BridgeNet x = new BridgeNet();
        x.link(0, 0, 2, 0);
        x.link(0, 1, 1, 0);
        x.link(1, 1, 2, 1);
        x.set(2, 0, 21, 3);
        Nets.settle(x);
        Check.same("cost counts, not hops", x.root(2), Nets.root(64, 20, 2));
        Check.same("root port", x.port(2, 1), Nets.ROOT_PORT);
        Check.same("blocked", x.port(2, 0), Nets.BLOCKED_PORT);
    }

    private static void bridgeBeforePort() {
        vectorSentence();
        Check.same("equal costs: the lesser bridge", rootPortOf3(10, 10), 1);
        BridgeNet x = new BridgeNet();
        x.link(0, 0, 1, 0);
        x.link(0, 1, 2, 0);
        x.link(1, 3, 3, 1);
        x.link(2, 1, 3, 0);
        Nets.settle(x);
        Check.same("also from its greater port", x.port(3, 1), Nets.ROOT_PORT);
        Check.same("blocked", x.port(3, 0), Nets.BLOCKED_PORT);
    }

    private static void portAtLast() {
        vectorSentence();
        for (int p = 0; p < 3; p++) {
            BridgeNet x = new BridgeNet();
            x.link(0, p + 1, 1, 0);
            x.link(0, p, 1, 1);
            Nets.settle(x);
            Check.same("the teller's lesser port", x.port(1, 1), Nets.ROOT_PORT);
            Check.same("the teller's greater port", x.port(1, 0), Nets.BLOCKED_PORT);
        }
    }

    private static void theBestCandidateCounts() {
        Check.sentence("its root is the bridge's ROOT, its cost the bridge's COST, its hops the"
                + " bridge's HOPS, and the port from which it comes, if any, is the ROOT PORT.");
        for (int p = 0; p < 4; p++) {
            BridgeNet x = new BridgeNet();
            for (int q = 0; q < 4; q++) {
                x.set(4, q, q == p ? 30 : 31, 3);
                x.link(q, 0, 4, q);
            }
            for (int q = 3; q >= 0; q--) {
                x.deliver(4, q);
                Check.same("root", x.root(4), Nets.root(64 + q, q == p ? 30 : 31, 1));
                Check.same("root port", x.port(4, q), Nets.ROOT_PORT);
            }
        }
    }

    private static void noRootPort() {
        Check.sentence("and the port from which it comes, if any, is the ROOT PORT.");
        BridgeNet x = new BridgeNet();
        for (int q = 0; q < 4; q++) {
            x.link(0, q, 1 + q, 0);
        }
        Nets.settle(x);
        for (int q = 0; q < 4; q++) {
            Check.yes("INFO", x.info(0, q) >= 0);
            Check.same("designated", x.port(0, q), Nets.AGREED_PORT);
        }
    }

    private static void rolesOfPorts() {
        Check.sentence("ROLES: a free port has none (0); a port with a station is DESIGNATED (2);"
                + " the root port is ROOT (1)");
        BridgeNet x = Nets.pair();
        x.attach(0, 1, 1, 1);
        Check.same("free", x.port(1, 2) % 4, 0);
        Check.same("station", x.port(1, 1) % 4, 2);
        Check.same("root port", x.port(1, 0) % 4, 1);
        Nets.ticks(x, 6);
        Check.same("free, when all compute", x.port(1, 2) % 4, 0);
        Check.same("station, when all compute", x.port(1, 1) % 4, 2);
        Check.same("no root port any more", x.port(1, 0) % 4, 2);
    }

    /** Which of 3 and 4 is designated on their link, with 2 as the root at cost 10 from 4. */
    private static int designatedOf3And4(int costOf3) {
        BridgeNet x = new BridgeNet();
        x.set(3, 0, costOf3, 3);
        x.link(2, 0, 3, 0);
        x.link(2, 1, 4, 0);
        x.link(3, 1, 4, 1);
        Nets.settle(x);
        int designated = x.port(3, 1) == Nets.AGREED_PORT ? 3 : 4;
        Check.same("designated", x.port(designated, 1), Nets.AGREED_PORT);
        Check.same("blocked", x.port(7 - designated, 1), Nets.BLOCKED_PORT);
        return designated;
    }

    private static void designatedOrBlocked() {
        Check.sentence("DESIGNATED if it has no INFO or what it would tell is less than its INFO;"
                + " otherwise it is BLOCKED (3).");
        Check.same("a lesser cost", designatedOf3And4(9), 3);
        Check.same("equal costs: the lesser bridge's", designatedOf3And4(10), 3);
        Check.same("a greater cost", designatedOf3And4(11), 4);
        BridgeNet x = new BridgeNet();
        x.link(0, 0, 1, 0);
        x.link(0, 1, 1, 1);
        x.deliver(1, 0);
        Check.same("no INFO", x.info(1, 1), -1);
        Check.same("designated", x.port(1, 1), Nets.proposing(Nets.DISCARDING, 4));
        x.deliver(1, 1);
        Check.same("with INFO blocked", x.port(1, 1), Nets.BLOCKED_PORT);
    }

    private static void becomingRoot() {
        Check.sentence("one that becomes ROOT is FORWARDING at once, and neither PROPOSING nor AGREED");
        for (int ticks = 0; ticks <= 8; ticks += 4) {
            BridgeNet x = new BridgeNet();
            x.link(0, 0, 1, 0);
            Nets.ticks(x, ticks);
            x.deliver(1, 0);
            Check.same("after " + ticks + " ticks", x.port(1, 0), Nets.ROOT_PORT);
        }
        BridgeNet x = Nets.row();
        x.priority(3, 0);
        x.link(3, 0, 2, 1);
        x.deliver(2, 1);
        Check.same("agreed", x.port(1, 1), Nets.AGREED_PORT);
        x.deliver(1, 1);
        Check.same("the agreed port", x.port(1, 1), Nets.ROOT_PORT);
        BridgeNet y = new BridgeNet();
        y.link(0, 0, 1, 0);
        y.link(0, 1, 1, 1);
        Nets.settle(y);
        y.cut(0, 0);
        Check.same("the blocked port", y.port(1, 1), Nets.ROOT_PORT);
    }

    /**
     * A ring in which port 1 of bridge 1 is designated and agreed, opposite port 0 of bridge 2,
     * which has never told bridge 1 of its own way to the root.
     */
    private static BridgeNet ring() {
        BridgeNet x = new BridgeNet();
        x.link(0, 0, 1, 0);
        x.link(1, 1, 2, 0);
        Nets.settle(x);
        x.link(0, 1, 2, 1);
        Nets.settle(x);
        Check.same("agreed", x.port(1, 1), Nets.AGREED_PORT);
        Check.same("blocked", x.port(2, 0), Nets.BLOCKED_PORT);
        return x;
    }

    private static void becomingBlocked() {
        Check.sentence("one that becomes BLOCKED is DISCARDING, neither PROPOSING nor AGREED");
        for (int ticks = 0; ticks <= 8; ticks += 4) {
            BridgeNet x = new BridgeNet();
            x.link(0, 0, 1, 0);
            x.link(0, 1, 1, 1);
            Nets.ticks(x, ticks);
            x.deliver(1, 0);
            x.deliver(1, 1);
            Check.same("designated for " + ticks + " ticks", x.port(1, 1), Nets.BLOCKED_PORT);
        }
        BridgeNet x = ring();
        x.set(1, 0, 15, 3);
        Check.same("agreed still", x.port(1, 1), Nets.AGREED_PORT);
        x.deliver(2, 0);
        x.deliver(1, 1);
        Check.same("the agreed port", x.port(1, 1), Nets.BLOCKED_PORT);
        BridgeNet y = ring();
        y.set(2, 1, 25, 3);
        Check.same("the root port", y.port(2, 1), Nets.BLOCKED_PORT);
        Check.same("the new one", y.port(2, 0), Nets.ROOT_PORT);
    }

    private static void becomingDesignated() {
        Check.sentence("one that becomes DESIGNATED is DISCARDING, PROPOSING and not AGREED, and"
                + " WAITS 4 ticks (one with a station is FORWARDING at once)");
        BridgeNet x = new BridgeNet();
        x.link(0, 0, 1, 0);
        Check.same("with a link", x.port(0, 0), 2 + 16 + 64 * 4);
        x.attach(0, 0, 1, 1);
        Check.same("with a station", x.port(0, 1), 2 + 4 * 2);
        BridgeNet y = Nets.pair();
        Nets.ticks(y, 6);
        Check.same("the root port that lost its INFO", y.port(1, 0), 2 + 16 + 64 * 4);
        BridgeNet z = ring();
        z.set(1, 0, 15, 3);
        z.deliver(2, 0);
        Check.same("the blocked port that hears worse", z.port(2, 0), 2 + 16 + 64 * 4);
    }

    private static void aRoleThatStays() {
        Check.sentence("a role that stays changes nothing.");
        BridgeNet x = new BridgeNet();
        x.link(0, 0, 1, 0);
        x.tick();
        x.set(0, 0, 20, 3);
        Check.same("waiting", x.port(0, 0), Nets.proposing(Nets.DISCARDING, 3));
        Nets.ticks(x, 4);
        x.set(0, 0, 10, 3);
        Check.same("learning", x.port(0, 0), Nets.proposing(Nets.LEARNING, 3));
        Nets.ticks(x, 3);
        x.set(0, 0, 20, 3);
        Check.same("forwarding", x.port(0, 0), Nets.STATION_PORT);
        BridgeNet y = ring();
        y.set(1, 0, 9, 3);
        Check.same("agreed", y.port(1, 1), Nets.AGREED_PORT);
        Check.same("root port", y.port(1, 0), Nets.ROOT_PORT);
        y.deliver(2, 0);
        Check.same("blocked", y.port(2, 0), Nets.BLOCKED_PORT);
    }

    private static void tellSentence() {
        Check.sentence("Then, if its ROOT, COST or HOPS, or any role has changed, a bridge TELLS on"
                + " each linked DESIGNATED port.");
    }

    /** Bridge 0 goes from one neighbour's root to another's as near: for 1 only the ROOT differs. */
    private static void rootAloneIsTold() {
        tellSentence();
        BridgeNet x = new BridgeNet();
        x.priority(3, 0);
        x.priority(4, 1);
        x.link(0, 0, 4, 0);
        x.link(0, 1, 1, 0);
        x.link(1, 1, 2, 0);
        Nets.settle(x);
        Check.same("root of 1", x.root(1), Nets.root(12, 20, 2));
        x.link(0, 2, 3, 0);
        x.deliver(0, 2);
        x.deliver(1, 0);
        Check.same("nothing new at first", x.line(2, 0), 0);
        x.deliver(1, 0);
        Check.same("root of 1", x.root(1), Nets.root(3, 20, 2));
        Check.same("root port", x.port(1, 0), Nets.ROOT_PORT);
        Check.same("told", x.line(2, 0), 1);
        Check.same("told", x.message(2, 0, 0), Nets.tell(3));
    }

    private static void costAloneIsTold() {
        tellSentence();
        BridgeNet x = Nets.row();
        x.set(1, 0, 11, 3);
        Check.same("told", x.line(2, 0), 1);
        Check.same("not on the root port", x.line(0, 1), 0);
        x.deliver(2, 0);
        Check.same("the new cost", x.info(2, 0), Nets.info(64, 11, 65, 1, 1));
    }

    /** Bridge 1 loses its way over one hop and takes one over two at the same cost. */
    private static void hopsAloneAreTold() {
        tellSentence();
        BridgeNet x = new BridgeNet();
        x.set(1, 0, 20, 3);
        x.link(0, 0, 1, 0);
        x.link(0, 1, 2, 0);
        x.link(2, 1, 1, 1);
        x.link(1, 2, 3, 0);
        x.link(3, 1, 4, 0);
        Nets.settle(x);
        Check.same("root of 3", x.root(3), Nets.root(64, 30, 2));
        x.cut(1, 0);
        Check.same("root of 1", x.root(1), Nets.root(64, 20, 2));
        Check.same("told to 3", x.line(3, 0), 1);
        x.deliver(3, 0);
        Check.same("only the hops of 3 differ", x.root(3), Nets.root(64, 30, 3));
        Check.same("told to 4", x.line(4, 0), 1);
        x.deliver(4, 0);
        Check.same("root of 4", x.root(4), Nets.root(64, 40, 4));
    }

    private static void aRoleAloneIsTold() {
        tellSentence();
        BridgeNet x = Nets.row();
        x.attach(0, 1, 2, 1);
        Check.same("told on the designated port", x.line(2, 0), 1);
        Check.same("not on the root port", x.line(0, 1), 0);
        Check.same("not on the station's port", x.line(1, 2), 0);
        BridgeNet y = ring();
        y.attach(0, 2, 2, 1);
        Check.same("not on a blocked port", y.line(1, 1), 0);
    }

    private static void noChangeIsNotTold() {
        tellSentence();
        BridgeNet x = Nets.row();
        x.set(1, 0, 10, 1);
        x.set(1, 1, 50, 3);
        x.set(1, 3, 7, 2);
        Check.same("a cost that does not count", x.line(2, 0), 0);
        x.attach(0, 0, 0, 1);
        Check.same("deliver", x.deliver(1, 0), Nets.TELL);
        Check.same("the same heard again", x.line(2, 0), 0);
        x.tick();
        Check.same("a first tick", x.line(2, 0), 0);
    }
}
