/** Promise 8: deliver, with what TELLs, AGREEs and frames do when they come. */
public final class DeliverTest {
    public static void main(String[] args) {
        wrongInputs();
        answersAndOrder();
        aTellBecomesInfo();
        tooManyHops();
        leastVectorWins();
        cheaperWayWithMoreHops();
        blockedPortAgrees();
        proposalGoesOn();
        agreedPortsAreLeft();
        noProposalNoAgreement();
        agreementIsChecked();
        frameAtAPortThatIsNotForwarding();
        frameAtABlockedPort();
        framesGoOn();
        Check.end();
    }

    private static void wrongInputs() {
        BridgeNet x = new BridgeNet();
        for (int b : Nets.NO_BRIDGES) {
            Check.thrown("no bridge", IndexOutOfBoundsException.class, () -> x.deliver(b, 0));
        }
        for (int p : Nets.NO_PORTS) {
            Check.thrown("no port", IndexOutOfBoundsException.class, () -> x.deliver(0, p));
        }
        x.attach(0, 0, 1, 1);
        Check.same("free port", x.deliver(0, 0), 0);
        Check.same("station's port", x.deliver(0, 1), 0);
    }

    private static void answersAndOrder() {
        BridgeNet x = new BridgeNet();
        x.link(0, 0, 1, 0);
        x.attach(0, 1, 1, 1);
        Check.same("TELL", x.deliver(1, 0), Nets.TELL);
        Check.same("a frame on the root port", x.send(0, 8, 1), 1);
        Check.same("line", x.line(0, 0), 4);
        Check.same("TELL", x.deliver(0, 0), Nets.TELL);
        Check.same("TELL of the station's port", x.deliver(0, 0), Nets.TELL);
        Check.same("AGREE", x.deliver(0, 0), Nets.AGREE);
        Check.same("frame", x.deliver(0, 0), Nets.FRAME);
        Check.same("none", x.deliver(0, 0), 0);
    }

    private static void aTellBecomesInfo() {
        BridgeNet x = new BridgeNet();
        x.link(0, 2, 1, 3);
        x.deliver(0, 2);
        Check.same("a worse one too", x.info(0, 2), Nets.info(65, 0, 65, 3, 0));
        Check.same("still designated", x.port(0, 2), Nets.proposing(Nets.DISCARDING, 4));
        Check.same("still its own root", x.root(0), 64);
        x.deliver(1, 3);
        Check.same("a better one", x.info(1, 3), Nets.info(64, 0, 64, 2, 0));
        Check.same("root port", x.port(1, 3), Nets.ROOT_PORT);
        Check.same("root", x.root(1), Nets.root(64, 10, 1));
        x.tick();
        x.tick();
        Check.same("life has fallen", x.info(1, 3), Nets.info(64, 0, 64, 2, 0, 4));
        x.deliver(1, 3);
        Check.same("life is full again", x.info(1, 3), Nets.info(64, 0, 64, 2, 0, 6));
    }

    /** Two bridges that tell each other of a root that is gone: hops end it. */
    private static void tooManyHops() {
        BridgeNet x = Nets.row();
        x.link(1, 2, 2, 1);
        x.lose(1, 2);
        x.deliver(2, 0);
        x.deliver(2, 1);
        x.deliver(1, 2);
        Check.same("root of 2", x.root(2), Nets.root(64, 20, 2));
        Check.same("blocked", x.port(2, 1), Nets.BLOCKED_PORT);
        Check.same("agreed", x.port(1, 2), Nets.AGREED_PORT);
        x.cut(0, 1);
        x.deliver(2, 0);
        x.lose(2, 1);
        Check.same("the blocked port takes over", x.port(2, 1), Nets.ROOT_PORT);
        x.deliver(1, 1);
        Check.same("root of 1", x.root(1), Nets.root(64, 30, 3));
        x.deliver(2, 1);
        Check.same("root of 2", x.root(2), Nets.root(64, 40, 4));
        x.deliver(1, 1);
        Check.same("root of 1", x.root(1), Nets.root(64, 50, 5));
        Check.same("hops 5 come", x.deliver(2, 1), Nets.TELL);
        Check.same("hops 5 count", x.root(2), Nets.root(64, 60, 6));
        Check.same("info", x.info(2, 1), Nets.info(64, 50, 65, 2, 5));
        x.tick();
        long before = x.info(1, 1);
        Check.same("one of hops 6 is there", x.line(1, 1), 1);
        Check.same("hops 6 come", x.deliver(1, 1), Nets.TELL);
        Check.same("hops 6 are nothing", x.info(1, 1), before);
        Check.same("root of 1", x.root(1), Nets.root(64, 50, 5));
    }

    private static void leastVectorWins() {
        BridgeNet x = new BridgeNet();
        x.link(0, 0, 1, 0);
        x.link(0, 1, 2, 0);
        x.link(2, 1, 3, 0);
        x.link(1, 1, 3, 1);
        Nets.settle(x);
        Check.same("over the lesser bridge", x.port(3, 1), Nets.ROOT_PORT);
        Check.same("not over the greater", x.port(3, 0), Nets.BLOCKED_PORT);
        x.set(3, 1, 11, 3);
        Check.same("cost before bridge", x.port(3, 0), Nets.ROOT_PORT);
        Check.same("cost before bridge", x.port(3, 1), Nets.BLOCKED_PORT);
        Check.same("root", x.root(3), Nets.root(64, 20, 2));

        BridgeNet y = new BridgeNet();
        y.link(0, 1, 1, 0);
        y.link(0, 0, 1, 1);
        Nets.settle(y);
        Check.same("the teller's lesser port", y.port(1, 1), Nets.ROOT_PORT);
        Check.same("the teller's greater port", y.port(1, 0), Nets.BLOCKED_PORT);

        Check.same("equal costs: the lesser bridge's", designatedOf3And4(10), 3);
        Check.same("a lesser cost", designatedOf3And4(9), 3);
        Check.same("a greater cost", designatedOf3And4(11), 4);
    }

    /** Which of 3 and 4 is designated on their link, with 2 as the root at cost 10 from 4. */
    private static int designatedOf3And4(int costOf3) {
        BridgeNet x = new BridgeNet();
        x.set(3, 0, costOf3, 3);
        x.link(2, 0, 3, 0);
        x.link(2, 1, 4, 0);
        x.link(3, 1, 4, 1);
        Nets.settle(x);
        int designated = x.port(3, 1) == Nets.AGREED_PORT ? 3 : 4;
        Check.same("designated", x.port(designated, 1), Nets.AGREED_PORT);
        Check.same("blocked", x.port(7 - designated, 1), Nets.BLOCKED_PORT);
        return designated;
    }

    private static void cheaperWayWithMoreHops() {
        BridgeNet x = new BridgeNet();
        x.link(0, 0, 2, 0);
        x.link(0, 1, 1, 0);
        x.link(1, 1, 2, 1);
        x.set(2, 0, 50, 3);
        Nets.settle(x);
        Check.same("root", x.root(2), Nets.root(64, 20, 2));
        Check.same("root port", x.port(2, 1), Nets.ROOT_PORT);
        Check.same("blocked", x.port(2, 0), Nets.BLOCKED_PORT);
    }

    private static void blockedPortAgrees() {
        BridgeNet x = new BridgeNet();
        x.link(0, 0, 1, 0);
        x.link(0, 1, 1, 1);
        x.link(1, 2, 2, 0);
        x.deliver(1, 0);
        x.tick();
        Nets.drain(x, 0, 1);
        Nets.drain(x, 2, 0);
        Check.same("proposing elsewhere", x.port(1, 2), Nets.proposing(Nets.DISCARDING, 3));
        Check.same("deliver", x.deliver(1, 1), Nets.TELL);
        Check.same("blocked", x.port(1, 1), Nets.BLOCKED_PORT);
        Check.same("only an agreement", x.line(0, 1), 1);
        Check.same("with the bridge's root", x.message(0, 1, 0), Nets.agree(64));
        Check.same("others go on waiting", x.port(1, 2), Nets.proposing(Nets.DISCARDING, 3));
        Check.same("others are told of the role", x.line(2, 0), 1);
        Check.same("AGREE", x.deliver(0, 1), Nets.AGREE);
        Check.same("agreed", x.port(0, 1), Nets.AGREED_PORT);
    }

    private static void proposalGoesOn() {
        BridgeNet x = new BridgeNet();
        x.link(1, 1, 2, 0);
        x.lose(1, 1);
        x.lose(2, 0);
        Nets.ticks(x, 8);
        Check.same("forwarding by waiting", x.port(1, 1), Nets.STATION_PORT);
        x.attach(0, 1, 3, 1);
        x.link(0, 0, 1, 0);
        Nets.drain(x, 0, 0);
        Nets.drain(x, 2, 0);
        Check.same("deliver", x.deliver(1, 0), Nets.TELL);
        Check.same("not agreed: discarding", x.port(1, 1), Nets.proposing(Nets.DISCARDING, 4));
        Check.same("a station's port is left alone", x.port(1, 3), Nets.STATION_PORT);
        Check.same("told twice", x.line(2, 0), 2);
        Check.same("agreed to at once", x.message(0, 0, 0), Nets.agree(64));
        Check.same("nothing else", x.line(0, 0), 1);
        Nets.drain(x, 1, 1);
        x.deliver(2, 0);
        Check.same("the first did not propose", x.line(1, 1), 0);
        x.deliver(2, 0);
        Check.same("the second did", x.message(1, 1, 0), Nets.agree(64));
        Check.same("AGREE", x.deliver(1, 1), Nets.AGREE);
        Check.same("agreed", x.port(1, 1), Nets.AGREED_PORT);
    }

    private static void agreedPortsAreLeft() {
        BridgeNet x = Nets.row();
        x.set(1, 2, 5, 3);
        x.link(0, 2, 1, 2);
        Nets.drain(x, 2, 0);
        Check.same("agreed", x.port(1, 1), Nets.AGREED_PORT);
        Check.same("deliver", x.deliver(1, 2), Nets.TELL);
        Check.same("root port", x.port(1, 2), Nets.ROOT_PORT);
        Check.same("the old one", x.port(1, 0), Nets.BLOCKED_PORT);
        Check.same("agreed still", x.port(1, 1), Nets.AGREED_PORT);
        Check.same("told of the cost only", x.line(2, 0), 1);
    }

    private static void noProposalNoAgreement() {
        BridgeNet x = Nets.pair();
        x.tick();
        x.tick();
        Check.same("deliver", x.deliver(1, 0), Nets.TELL);
        Check.same("no agreement without a proposal", x.line(0, 0), 0);

        BridgeNet y = new BridgeNet();
        y.link(0, 0, 1, 0);
        y.lose(1, 0);
        Check.same("a proposal to a designated port", y.deliver(0, 0), Nets.TELL);
        Check.same("no agreement from it", y.line(1, 0), 0);
    }

    private static void agreementIsChecked() {
        BridgeNet late = new BridgeNet();
        late.link(0, 0, 1, 0);
        late.deliver(1, 0);
        late.deliver(0, 0);
        Nets.ticks(late, 8);
        Check.same("no more proposing", late.port(0, 0), Nets.STATION_PORT);
        Check.same("late", late.deliver(0, 0), Nets.AGREE);
        Check.same("nothing", late.port(0, 0), Nets.STATION_PORT);

        BridgeNet learning = new BridgeNet();
        learning.link(0, 0, 1, 0);
        learning.deliver(1, 0);
        learning.deliver(0, 0);
        Nets.ticks(learning, 4);
        Check.same("learning", learning.port(0, 0), Nets.proposing(Nets.LEARNING, 4));
        Check.same("in time", learning.deliver(0, 0), Nets.AGREE);
        Check.same("agreed", learning.port(0, 0), Nets.AGREED_PORT);

        BridgeNet other = new BridgeNet();
        other.priority(2, 0);
        other.link(0, 0, 1, 0);
        other.deliver(1, 0);
        other.deliver(0, 0);
        other.link(2, 0, 0, 1);
        other.deliver(0, 1);
        Check.same("another root", other.root(0), Nets.root(2, 10, 1));
        Check.same("agreement with the old one", other.message(0, 0, 0), Nets.agree(64));
        Check.same("deliver", other.deliver(0, 0), Nets.AGREE);
        Check.same("nothing", other.port(0, 0), Nets.proposing(Nets.DISCARDING, 4));

        BridgeNet rootPort = new BridgeNet();
        rootPort.link(0, 0, 1, 0);
        rootPort.deliver(1, 0);
        rootPort.deliver(0, 0);
        rootPort.cut(0, 0);
        Check.same("gone with the link", rootPort.deliver(0, 0), 0);
    }

    private static void frameAtAPortThatIsNotForwarding() {
        BridgeNet x = new BridgeNet();
        x.link(0, 0, 1, 0);
        x.attach(0, 0, 1, 1);
        x.attach(1, 1, 1, 1);
        x.deliver(1, 0);
        Nets.drain(x, 0, 0);
        Check.same("sent", x.send(1, 8, 1), 1);
        Check.same("deliver", x.deliver(0, 0), Nets.FRAME);
        Check.same("discarding: not learned", x.learned(0, 1, 1), -1);
        Check.same("discarding: not passed on", x.inbox(0, -1), 0);
        Nets.ticks(x, 4);
        Check.same("learning", x.port(0, 0), Nets.proposing(Nets.LEARNING, 4));
        Check.same("sent", x.send(1, 8, 2), 1);
        Check.same("deliver", x.deliver(0, 0), Nets.FRAME);
        Check.same("learning: learned", x.learned(0, 1, 1), 0);
        Check.same("learning: not passed on", x.inbox(0, -1), 0);
        Nets.drain(x, 1, 0);
        Nets.ticks(x, 2);
        x.deliver(1, 0);
        Nets.drain(x, 0, 0);
        Nets.ticks(x, 2);
        Check.same("forwarding", x.port(0, 0), Nets.STATION_PORT);
        x.send(1, 8, 3);
        Nets.settle(x);
        Check.same("forwarding: passed on", x.inbox(0, 0), Nets.kept(1, 8, 3));
    }

    private static void frameAtABlockedPort() {
        BridgeNet x = new BridgeNet();
        x.link(0, 0, 1, 0);
        x.link(0, 1, 1, 1);
        x.attach(0, 0, 2, 2);
        x.attach(1, 1, 2, 2);
        Nets.settle(x);
        Check.same("out on both links", x.send(0, 8, 1), 2);
        Check.same("at the blocked port", x.deliver(1, 1), Nets.FRAME);
        Check.same("nothing learned", x.learned(1, 0, 2), -1);
        Check.same("nothing kept", x.inbox(1, -1), 0);
        Check.same("at the root port", x.deliver(1, 0), Nets.FRAME);
        Check.same("learned", x.learned(1, 0, 2), 0);
        Check.same("kept once", x.inbox(1, -1), 1);
        Check.same("nothing goes back", x.line(0, 0) + x.line(0, 1), 0);
        Check.same("not out on the blocked port", x.send(1, 8, 1), 1);
    }

    private static void framesGoOn() {
        BridgeNet x = Nets.row();
        x.attach(0, 0, 0, 1);
        x.attach(1, 1, 2, 1);
        x.attach(2, 2, 1, 1);
        Nets.settle(x);
        x.send(0, 2, 40);
        x.deliver(1, 0);
        Check.same("not learned: to the station", x.inbox(1, 0), Nets.kept(0, 2, 40));
        Check.same("not learned: and on", x.message(2, 0, 0), Nets.frame(2, 1));
        x.deliver(2, 0);
        Check.same("arrived", x.inbox(2, 0), Nets.kept(0, 2, 40));
        x.send(2, 0, 41);
        Check.same("deliver", x.deliver(1, 1), Nets.FRAME);
        Check.same("learned: not to the station", x.inbox(1, -1), 1);
        Check.same("learned: on the one way", x.message(0, 1, 0), Nets.frame(0, 1));
        x.deliver(0, 1);
        Check.same("arrived", x.inbox(0, 0), Nets.kept(2, 0, 41));
        x.send(2, 9, 42);
        Check.same("reserved frames go nowhere", x.line(1, 1), 0);
        x.set(1, 0, 10, 2);
        x.send(0, 8, 43);
        Check.same("deliver", x.deliver(1, 0), Nets.FRAME);
        Check.same("the port has not the VLAN", x.inbox(1, -1), 1);
        Check.same("nothing goes on", x.line(2, 0), 0);
    }
}
