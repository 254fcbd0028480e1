/** What an AGREE does when it comes, and when it is nothing. */
public final class AgreeTest {
    public static void main(String[] args) {
        Check.sentence("if p is DESIGNATED and PROPOSING, and its root is the bridge's ROOT: p is"
                + " FORWARDING, AGREED, not PROPOSING.");
        toAPortThatWaits(0, Nets.proposing(Nets.DISCARDING, 4));
        toAPortThatWaits(3, Nets.proposing(Nets.DISCARDING, 1));
        toAPortThatWaits(4, Nets.proposing(Nets.LEARNING, 4));
        toAPortThatWaits(7, Nets.proposing(Nets.LEARNING, 1));
        Check.sentence("Otherwise it is nothing.");
        toAPortThatProposesNoMore();
        aSecondOne();
        ofAnotherRoot();
        toARootPort();
        toABlockedPort();
        afterTheLinkHasGone();
        Check.end();
    }

    /** A proposal agreed to by bridge 1, whose AGREE is all that is in the line of bridge 0. */
    private static BridgeNet withAnAgreement() {
        BridgeNet x = new BridgeNet();
        x.link(0, 0, 1, 0);
        x.deliver(1, 0);
        x.deliver(0, 0);
        Check.same("AGREE", x.message(0, 0, 0), Nets.agree(64));
        return x;
    }

    private static void toAPortThatWaits(int ticks, int before) {
        BridgeNet x = withAnAgreement();
        Nets.ticks(x, ticks);
        Check.same("before", x.port(0, 0), before);
        Check.same("deliver", x.deliver(0, 0), Nets.AGREE);
        Check.same("after", x.port(0, 0), 2 + 4 * 2 + 32);
    }

    private static void toAPortThatProposesNoMore() {
        BridgeNet x = withAnAgreement();
        Nets.ticks(x, 8);
        Check.same("forwarding by waiting", x.port(0, 0), Nets.STATION_PORT);
        Check.same("deliver", x.deliver(0, 0), Nets.AGREE);
        Check.same("not agreed", x.port(0, 0), Nets.STATION_PORT);
    }

    private static void aSecondOne() {
        BridgeNet x = withAnAgreement();
        Nets.ticks(x, 2);
        Check.same("a second proposal", x.deliver(1, 0), Nets.TELL);
        Check.same("deliver", x.deliver(0, 0), Nets.AGREE);
        Check.same("deliver", x.deliver(0, 0), Nets.AGREE);
        Check.same("agreed", x.port(0, 0), Nets.AGREED_PORT);
        Check.same("none", x.deliver(0, 0), 0);
    }

    private static void ofAnotherRoot() {
        BridgeNet x = new BridgeNet();
        x.priority(2, 0);
        x.link(0, 0, 1, 0);
        x.deliver(1, 0);
        x.deliver(0, 0);
        x.link(2, 0, 0, 1);
        x.deliver(0, 1);
        Check.same("another root", x.root(0), Nets.root(2, 10, 1));
        Check.same("agreement with the old one", x.message(0, 0, 0), Nets.agree(64));
        Check.same("deliver", x.deliver(0, 0), Nets.AGREE);
        Check.same("nothing", x.port(0, 0), Nets.proposing(Nets.DISCARDING, 4));
    }

    /**
     * Bridge 1 heard of the root from 2 first and then from the root itself; it has proposed to 2,
     * and the AGREE of 2, with the root that 1 has, is all that is in the line of its port 1.
     */
    private static BridgeNet withAnAgreementInARing() {
        BridgeNet x = new BridgeNet();
        x.link(0, 0, 1, 0);
        x.link(0, 1, 2, 1);
        x.link(1, 1, 2, 0);
        x.deliver(2, 1);
        Nets.drain(x, 2, 0);
        while (x.line(1, 1) > 0) {
            x.deliver(1, 1);
        }
        Check.same("over 2", x.root(1), Nets.root(64, 20, 2));
        Nets.drain(x, 2, 0);
        x.deliver(1, 0);
        Check.same("proposing to 2", x.port(1, 1), Nets.proposing(Nets.DISCARDING, 4));
        while (x.line(2, 0) > 0) {
            x.deliver(2, 0);
        }
        while (x.line(1, 1) > 1) {
            x.lose(1, 1);
        }
        Check.same("the agreement of 2", x.message(1, 1, 0), Nets.agree(64));
        return x;
    }

    private static void toARootPort() {
        BridgeNet x = withAnAgreementInARing();
        x.cut(1, 0);
        Check.same("root port", x.port(1, 1), Nets.ROOT_PORT);
        Check.same("the same root", x.root(1), Nets.root(64, 20, 2));
        Check.same("deliver", x.deliver(1, 1), Nets.AGREE);
        Check.same("nothing", x.port(1, 1), Nets.ROOT_PORT);
    }

    private static void toABlockedPort() {
        BridgeNet x = withAnAgreementInARing();
        x.set(1, 0, 11, 3);
        Check.same("blocked", x.port(1, 1), Nets.BLOCKED_PORT);
        Check.same("deliver", x.deliver(1, 1), Nets.AGREE);
        Check.same("nothing", x.port(1, 1), Nets.BLOCKED_PORT);
    }

    private static void afterTheLinkHasGone() {
        BridgeNet x = withAnAgreement();
        x.cut(0, 0);
        Check.same("gone with the link", x.deliver(0, 0), 0);
        x.link(0, 0, 1, 0);
        Check.same("not agreed on the next one", x.port(0, 0), Nets.proposing(Nets.DISCARDING, 4));
        Check.same("only a TELL comes", x.line(0, 0), 1);
        Check.same("only a TELL comes", x.message(0, 0, 0), Nets.tell(65));
    }
}
