/** Promise 2: priority. */
public final class PriorityTest {
    private static final String REFUSALS = "False when there is no b, priority is not 0 .. 15, or"
            + " one of its ports is not free.";

    public static void main(String[] args) {
        idsFollowPriorities();
        noSuchBridge();
        noSuchPriority();
        aLinkedPort();
        aStationsPort();
        freeAgain();
        theLeastIdIsRoot();
        Check.end();
    }

    private static void idsFollowPriorities() {
        Check.sentence("Bridge b gets a priority, and computes.");
        BridgeNet x = new BridgeNet();
        for (int b = 0; b < 5; b++) {
            for (int priority = 0; priority <= 15; priority++) {
                Check.yes("priority", x.priority(b, priority));
                Check.same("root after priority", x.root(b), 8 * priority + b);
            }
        }
        for (int b = 0; b < 5; b++) {
            Check.same("root, others' priorities set", x.root(b), 120 + b);
        }
    }

    private static void noSuchBridge() {
        Check.sentence(REFUSALS);
        BridgeNet x = new BridgeNet();
        for (int b : Nets.NO_BRIDGES) {
            Check.no("bridge " + b, x.priority(b, 3));
        }
        for (int b = 0; b < 5; b++) {
            Check.same("as before", x.root(b), 64 + b);
        }
        Check.yes("the first", x.priority(0, 3));
        Check.yes("the last", x.priority(4, 3));
        Check.same("root of the first", x.root(0), 24);
        Check.same("root of the last", x.root(4), 28);
    }

    private static void noSuchPriority() {
        Check.sentence(REFUSALS);
        BridgeNet x = new BridgeNet();
        for (int priority : Nets.NO_PRIORITIES) {
            Check.no("priority " + priority, x.priority(1, priority));
            Check.same("as before", x.root(1), 65);
        }
        Check.yes("the least", x.priority(1, 0));
        Check.same("root", x.root(1), 1);
        Check.no("one less", x.priority(1, -1));
        Check.yes("the greatest", x.priority(1, 15));
        Check.same("root", x.root(1), 121);
        Check.no("one more", x.priority(1, 16));
        Check.same("as before", x.root(1), 121);
    }

    /** Any one port is enough, at either end of its link. */
    private static void aLinkedPort() {
        Check.sentence(REFUSALS);
        for (int p = 0; p < 4; p++) {
            BridgeNet x = new BridgeNet();
            x.link(0, p, 1, 3 - p);
            Check.no("first end at port " + p, x.priority(0, 1));
            Check.no("other end at port " + (3 - p), x.priority(1, 1));
            Check.yes("a bridge beside them", x.priority(2, 1));
            Check.same("as before", x.root(0), 64);
            Check.same("as before", x.root(1), 65);
        }
    }

    private static void aStationsPort() {
        Check.sentence(REFUSALS);
        for (int p = 0; p < 4; p++) {
            BridgeNet x = new BridgeNet();
            x.attach(5, 2, p, 2);
            Check.no("a station at port " + p, x.priority(2, 1));
            Check.same("as before", x.root(2), 66);
        }
    }

    private static void freeAgain() {
        Check.sentence(REFUSALS);
        BridgeNet x = new BridgeNet();
        x.link(0, 3, 1, 2);
        x.attach(5, 2, 1, 2);
        x.cut(1, 2);
        x.attach(5, 3, 0, 1);
        Check.yes("after the cut, first end", x.priority(0, 1));
        Check.yes("after the cut, other end", x.priority(1, 1));
        Check.yes("after the station went", x.priority(2, 1));
        Check.no("where the station came", x.priority(3, 2));
    }

    private static void theLeastIdIsRoot() {
        Check.sentence("Bridge b gets a priority, and computes.");
        BridgeNet x = new BridgeNet();
        Check.yes("priority(1, 0)", x.priority(1, 0));
        Check.yes("link", x.link(0, 0, 1, 0));
        Nets.settle(x);
        Check.same("root of 0", x.root(0), Nets.root(1, 10, 1));
        Check.same("root of 1", x.root(1), Nets.root(1, 0, 0));
    }
}
