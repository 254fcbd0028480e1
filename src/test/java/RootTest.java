/** Promise 12: root. */
public final class RootTest {
    private static final String ANSWER = "A bridge's ROOT, plus 256 times its COST, plus 65536 * 256"
            + " times its HOPS";

    public static void main(String[] args) {
        noSuchBridge();
        costsAndHopsAddUp();
        moreThanAByteOfCost();
        leastAndGreatest();
        Check.end();
    }

    private static void noSuchBridge() {
        Check.sentence("-1 when there is none.");
        BridgeNet x = new BridgeNet();
        for (int b : Nets.NO_BRIDGES) {
            Check.same("bridge " + b, x.root(b), -1);
        }
        Check.same("the first", x.root(0), 64);
        Check.same("the last", x.root(4), 68);
    }

    private static void costsAndHopsAddUp() {
        Check.sentence(ANSWER);
        BridgeNet x = new BridgeNet();
        for (int b = 0; b < 4; b++) {
            x.link(b, 1, b + 1, 0);
            x.set(b + 1, 0, 47 + b, 3);
        }
        Nets.settle(x);
        int cost = 0;
        for (int b = 1; b < 5; b++) {
            cost += 46 + b;
            Check.same("root of " + b, x.root(b), 64 + 256L * cost + 65536L * 256 * b);
        }
        Check.same("root of the root", x.root(0), 64);
    }

    /** The farthest that a bridge can be: 6 hops of 50 each. */
    private static void moreThanAByteOfCost() {
        Check.sentence(ANSWER);
        BridgeNet x = Nets.fiveHopsAway(50);
        Check.same("250", x.root(1), 64 + 256L * 250 + 65536L * 256 * 5);
        x.deliver(2, 1);
        Check.same("300", x.root(2), 64 + 256L * 300 + 65536L * 256 * 6);
        Check.same("250 as INFO", x.info(2, 1), Nets.info(64, 250, 65, 2, 5));
    }

    private static void leastAndGreatest() {
        Check.sentence(ANSWER);
        BridgeNet x = new BridgeNet();
        x.priority(0, 0);
        Check.same("the least answer", x.root(0), 0);
        for (int b = 1; b < 5; b++) {
            x.priority(b, 15);
            Check.same("the greatest IDs", x.root(b), 120 + b);
        }
        x.set(4, 3, 1, 3);
        x.link(0, 0, 4, 3);
        Nets.settle(x);
        Check.same("root 0 at the least cost", x.root(4), 256 + 65536L * 256);
    }
}
