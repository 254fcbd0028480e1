/** What a TELL carries, and what it does when it comes. */
public final class TellTest {
    public static void main(String[] args) {
        whatItCarries();
        tooManyHops(10);
        tooManyHops(50);
        aProposalOfTooManyHops();
        itBecomesInfo();
        aWorseOneReplacesABetter();
        lifeIsSixAgain();
        aProposalToTheRootPort();
        aProposalToABlockedPort();
        aProposalToADesignatedPort();
        noProposal();
        agreedPortsAreLeft();
        portsThatHaveWaitedAreNot();
        Check.end();
    }

    private static void whatItCarries() {
        Check.sentence("To TELL on a port: a message TELL, with what it would tell, the bridge's"
                + " HOPS, and whether the port is PROPOSING, goes to the other end.");
        BridgeNet x = new BridgeNet();
        x.priority(4, 15);
        x.set(1, 0, 50, 3);
        x.link(0, 3, 1, 0);
        Nets.settle(x);
        x.link(1, 3, 4, 2);
        Check.same("its root", x.message(4, 2, 0), Nets.tell(64));
        x.deliver(4, 2);
        Check.same("vector and hops", x.info(4, 2), Nets.info(64, 50, 65, 3, 1));
        Check.same("PROPOSING, so agreed to", x.message(1, 3, 1), Nets.agree(64));
        x.deliver(1, 3);
        x.deliver(1, 3);
        Check.same("agreed", x.port(1, 3), Nets.AGREED_PORT);
        x.attach(0, 1, 1, 1);
        x.deliver(4, 2);
        Check.same("not PROPOSING, so nothing back", x.line(1, 3), 0);
    }

    private static void hopsSentence() {
        Check.sentence("A TELL comes to port p: with hops 6 or more it is nothing.");
    }

    private static void tooManyHops(int cost) {
        hopsSentence();
        BridgeNet x = Nets.fiveHopsAway(cost);
        Check.same("hops 5 come", x.deliver(2, 1), Nets.TELL);
        Check.same("hops 5 are INFO", x.info(2, 1), Nets.info(64, 5 * cost, 65, 2, 5));
        Check.same("hops 5 count", x.root(2), Nets.root(64, 6 * cost, 6));
        x.tick();
        long before = x.info(1, 1);
        Check.same("one of hops 6 is there", x.line(1, 1), 1);
        Check.same("with its root", x.message(1, 1, 0), Nets.tell(64));
        Check.same("hops 6 come", x.deliver(1, 1), Nets.TELL);
        Check.same("hops 6 are nothing: no INFO, no new life", x.info(1, 1), before);
        Check.same("root of 1", x.root(1), Nets.root(64, 5 * cost, 5));
        Check.same("it is gone from the line", x.line(1, 1), 0);
    }

    private static void aProposalOfTooManyHops() {
        hopsSentence();
        BridgeNet x = Nets.fiveHopsAway(10);
        x.deliver(2, 1);
        Check.same("the teller proposes", x.port(2, 0), Nets.proposing(Nets.DISCARDING, 4));
        Nets.drain(x, 2, 0);
        Check.same("hops 6 come", x.deliver(1, 1), Nets.TELL);
        Check.same("no agreement", x.line(2, 0), 0);
        Check.same("no proposal goes on", x.line(2, 1), 0);
    }

    private static void infoSentence() {
        Check.sentence("Otherwise it is p's INFO, with LIFE 6, and the bridge computes.");
    }

    private static void itBecomesInfo() {
        infoSentence();
        BridgeNet x = new BridgeNet();
        x.link(0, 2, 1, 3);
        x.deliver(0, 2);
        Check.same("of a worse root too", x.info(0, 2), Nets.info(65, 0, 65, 3, 0, 6));
        Check.same("still designated", x.port(0, 2), Nets.proposing(Nets.DISCARDING, 4));
        Check.same("still its own root", x.root(0), 64);
        x.deliver(1, 3);
        Check.same("of a better root", x.info(1, 3), Nets.info(64, 0, 64, 2, 0, 6));
        Check.same("root port", x.port(1, 3), Nets.ROOT_PORT);
        Check.same("root", x.root(1), Nets.root(64, 10, 1));
    }

    private static void aWorseOneReplacesABetter() {
        infoSentence();
        BridgeNet x = Nets.row();
        x.cut(0, 1);
        Check.same("the better", x.info(2, 0), Nets.info(64, 10, 65, 1, 1));
        x.deliver(2, 0);
        Check.same("the worse", x.info(2, 0), Nets.info(65, 0, 65, 1, 0));
        Check.same("root", x.root(2), Nets.root(65, 10, 1));
    }

    private static void lifeIsSixAgain() {
        infoSentence();
        BridgeNet x = Nets.pair();
        Nets.ticks(x, 5);
        Check.same("the last tick of its life", x.info(1, 0), Nets.info(64, 0, 64, 0, 0, 1));
        x.deliver(1, 0);
        Check.same("full again", x.info(1, 0), Nets.info(64, 0, 64, 0, 0, 6));
        x.deliver(1, 0);
        Check.same("not more than full", x.info(1, 0), Nets.info(64, 0, 64, 0, 0, 6));
    }

    private static void proposalSentence() {
        Check.sentence("Then, if the TELL was PROPOSING, and p is ROOT or BLOCKED: if p is ROOT,"
                + " each other linked DESIGNATED port that is not AGREED becomes DISCARDING,"
                + " PROPOSING, and waits 4 ticks, and is told on; then an AGREE with the bridge's"
                + " ROOT goes back on p.");
    }

    private static void aProposalToTheRootPort() {
        proposalSentence();
        BridgeNet x = new BridgeNet();
        x.link(1, 1, 2, 0);
        x.attach(0, 1, 3, 1);
        x.link(0, 0, 1, 0);
        x.tick();
        Nets.drain(x, 0, 0);
        Nets.drain(x, 2, 0);
        Check.same("waiting", x.port(1, 1), Nets.proposing(Nets.DISCARDING, 3));
        x.deliver(1, 0);
        Check.same("root port", x.port(1, 0), Nets.ROOT_PORT);
        Check.same("waits anew", x.port(1, 1), Nets.proposing(Nets.DISCARDING, 4));
        Check.same("told by computing and again", x.line(2, 0), 2);
        Check.same("a station's port is left alone", x.port(1, 3), Nets.STATION_PORT);
        Check.same("one answer", x.line(0, 0), 1);
        Check.same("an agreement", x.message(0, 0, 0), Nets.agree(64));
    }

    private static void aProposalToABlockedPort() {
        proposalSentence();
        BridgeNet x = new BridgeNet();
        x.link(0, 0, 1, 0);
        x.link(0, 1, 1, 1);
        x.link(1, 2, 2, 0);
        x.deliver(1, 0);
        x.tick();
        Nets.drain(x, 0, 1);
        Nets.drain(x, 2, 0);
        Check.same("proposing elsewhere", x.port(1, 2), Nets.proposing(Nets.DISCARDING, 3));
        Check.same("deliver", x.deliver(1, 1), Nets.TELL);
        Check.same("blocked", x.port(1, 1), Nets.BLOCKED_PORT);
        Check.same("only an agreement", x.line(0, 1), 1);
        Check.same("with the bridge's root", x.message(0, 1, 0), Nets.agree(64));
        Check.same("others go on waiting", x.port(1, 2), Nets.proposing(Nets.DISCARDING, 3));
        Check.same("others are told of the role", x.line(2, 0), 1);
        Check.same("AGREE", x.deliver(0, 1), Nets.AGREE);
        Check.same("agreed", x.port(0, 1), Nets.AGREED_PORT);
    }

    private static void aProposalToADesignatedPort() {
        proposalSentence();
        BridgeNet x = new BridgeNet();
        x.link(0, 0, 1, 0);
        x.link(0, 1, 2, 0);
        x.tick();
        x.lose(1, 0);
        Nets.drain(x, 2, 0);
        Check.same("deliver", x.deliver(0, 0), Nets.TELL);
        Check.same("no answer", x.line(1, 0), 1);
        Check.same("not an agreement", x.message(1, 0, 0), Nets.tell(64));
        Check.same("nothing elsewhere", x.line(2, 0), 0);
        Check.same("nothing elsewhere", x.port(0, 1), Nets.proposing(Nets.DISCARDING, 3));
    }

    private static void noProposal() {
        proposalSentence();
        BridgeNet x = Nets.pair();
        x.link(1, 1, 2, 0);
        Nets.ticks(x, 2);
        Nets.drain(x, 2, 0);
        Check.same("deliver", x.deliver(1, 0), Nets.TELL);
        Check.same("no agreement", x.line(0, 0), 0);
        Check.same("no proposal goes on", x.line(2, 0), 0);
        Check.same("no new wait", x.port(1, 1), Nets.proposing(Nets.DISCARDING, 2));
    }

    private static void agreedPortsAreLeft() {
        proposalSentence();
        BridgeNet x = Nets.row();
        x.set(1, 2, 5, 3);
        x.link(0, 2, 1, 2);
        Nets.drain(x, 2, 0);
        Check.same("agreed", x.port(1, 1), Nets.AGREED_PORT);
        Check.same("deliver", x.deliver(1, 2), Nets.TELL);
        Check.same("root port", x.port(1, 2), Nets.ROOT_PORT);
        Check.same("the old one", x.port(1, 0), Nets.BLOCKED_PORT);
        Check.same("agreed still", x.port(1, 1), Nets.AGREED_PORT);
        Check.same("told of the cost only", x.line(2, 0), 1);
    }

    /** FORWARDING by waiting is not AGREED: back to DISCARDING until the next bridge agrees. */
    private static void portsThatHaveWaitedAreNot() {
        proposalSentence();
        BridgeNet x = new BridgeNet();
        x.link(1, 1, 2, 0);
        x.lose(1, 1);
        x.lose(2, 0);
        Nets.ticks(x, 8);
        Check.same("forwarding by waiting", x.port(1, 1), Nets.STATION_PORT);
        x.link(0, 0, 1, 0);
        Nets.drain(x, 0, 0);
        Nets.drain(x, 2, 0);
        Check.same("deliver", x.deliver(1, 0), Nets.TELL);
        Check.same("discarding", x.port(1, 1), Nets.proposing(Nets.DISCARDING, 4));
        Check.same("told twice", x.line(2, 0), 2);
        Nets.drain(x, 1, 1);
        x.deliver(2, 0);
        Check.same("the first did not propose", x.line(1, 1), 0);
        x.deliver(2, 0);
        Check.same("the second did", x.message(1, 1, 0), Nets.agree(64));
        Check.same("AGREE", x.deliver(1, 1), Nets.AGREE);
        Check.same("agreed", x.port(1, 1), Nets.AGREED_PORT);
    }
}
