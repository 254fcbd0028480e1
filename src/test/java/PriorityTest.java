/** Promise 2: priority. */
public final class PriorityTest {
    public static void main(String[] args) {
        idsFollowPriorities();
        wrongInputs();
        portsInUse();
        theLeastIdIsRoot();
        Check.end();
    }

    private static void idsFollowPriorities() {
        BridgeNet x = new BridgeNet();
        for (int b = 0; b < 5; b++) {
            for (int priority = 0; priority <= 15; priority++) {
                Check.yes("priority", x.priority(b, priority));
                Check.same("root after priority", x.root(b), 8 * priority + b);
            }
        }
        for (int b = 0; b < 5; b++) {
            Check.same("root, others' priorities set", x.root(b), 120 + b);
        }
    }

    private static void wrongInputs() {
        BridgeNet x = new BridgeNet();
        for (int b : Nets.NO_BRIDGES) {
            Check.no("priority of no bridge", x.priority(b, 3));
        }
        for (int priority : new int[] {-1, 16, 100, Integer.MIN_VALUE, Integer.MAX_VALUE}) {
            Check.no("priority " + priority, x.priority(1, priority));
        }
        Check.same("root after refusals", x.root(1), 65);
    }

    private static void portsInUse() {
        BridgeNet x = new BridgeNet();
        Check.yes("link", x.link(0, 3, 1, 2));
        x.attach(5, 2, 1, 2);
        Check.no("first end of a link", x.priority(0, 1));
        Check.no("other end of a link", x.priority(1, 1));
        Check.no("bridge with a station", x.priority(2, 1));
        Check.yes("bridge with free ports", x.priority(3, 1));
        Check.same("root after refusal", x.root(2), 66);
        Check.yes("cut", x.cut(1, 2));
        x.attach(5, 3, 0, 1);
        Check.yes("after the cut, first end", x.priority(0, 1));
        Check.yes("after the cut, other end", x.priority(1, 1));
        Check.yes("after the station went", x.priority(2, 1));
        Check.no("where the station came", x.priority(3, 2));
    }

    private static void theLeastIdIsRoot() {
        BridgeNet x = new BridgeNet();
        Check.yes("priority(1, 0)", x.priority(1, 0));
        Check.yes("link", x.link(0, 0, 1, 0));
        Nets.settle(x);
        Check.same("root of 0", x.root(0), Nets.root(1, 10, 1));
        Check.same("root of 1", x.root(1), Nets.root(1, 0, 0));
    }
}
