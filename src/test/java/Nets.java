/** The codes of the document's answers, and nets that several tests begin with. */
final class Nets {
    static final int ROOT = 1;
    static final int DESIGNATED = 2;
    static final int BLOCKED = 3;

    static final int DISCARDING = 0;
    static final int LEARNING = 1;
    static final int FORWARDING = 2;

    static final int TELL = 1;
    static final int AGREE = 2;
    static final int FRAME = 3;

    /** What port answers in the states that most tests meet. */
    static final int FREE = 0;
    static final int STATION_PORT = DESIGNATED + 4 * FORWARDING;
    static final int ROOT_PORT = ROOT + 4 * FORWARDING;
    static final int BLOCKED_PORT = BLOCKED;
    static final int AGREED_PORT = DESIGNATED + 4 * FORWARDING + 32;

    static final int[] NO_BRIDGES = {-1, 5, 100, Integer.MIN_VALUE, Integer.MAX_VALUE};
    static final int[] NO_PORTS = {-1, 4, 100, Integer.MIN_VALUE, Integer.MAX_VALUE};
    static final int[] NO_STATIONS = {-1, 8, 9, Integer.MIN_VALUE, Integer.MAX_VALUE};
    static final int[] NO_VLANS = {-1, 0, 3, Integer.MIN_VALUE, Integer.MAX_VALUE};
    static final int[] NO_VLAN_SETS = {-1, 0, 4, Integer.MIN_VALUE, Integer.MAX_VALUE};
    static final int[] NO_PRIORITIES = {-1, 16, 100, Integer.MIN_VALUE, Integer.MAX_VALUE};
    static final int[] NO_COSTS = {-1, 0, 51, Integer.MIN_VALUE, Integer.MAX_VALUE};
    static final int[] NO_DESTINATIONS = {-1, 10, 100, Integer.MIN_VALUE, Integer.MAX_VALUE};

    private Nets() {
    }

    static int proposing(int state, int waits) {
        return DESIGNATED + 4 * state + 16 + 64 * waits;
    }

    static long root(int id, int cost, int hops) {
        return id + 256L * cost + 65536L * 256 * hops;
    }

    /** An INFO with its vector's parts in their order, of full life. */
    static long info(int root, int cost, int bridge, int port, int hops) {
        return info(root, cost, bridge, port, hops, 6);
    }

    static long info(int root, int cost, int bridge, int port, int hops, int life) {
        return root + 256L * cost + 65536L * 256 * bridge + 65536L * 65536 * port
                + (1L << 40) * hops + (1L << 48) * life;
    }

    static long tell(int root) {
        return TELL + 16L * root;
    }

    static long agree(int root) {
        return AGREE + 16L * root;
    }

    static long frame(int destination, int vlan) {
        return FRAME + 16L * destination + 256L * vlan;
    }

    static long kept(int source, int destination, int value) {
        return Integer.toUnsignedLong(value) + (1L << 32) * source + (1L << 36) * destination;
    }

    /** Delivers round by round until every line is empty; a net that never rests is reported. */
    static void settle(BridgeNet x) {
        for (int round = 0; round < 1000; round++) {
            boolean quiet = true;
            for (int b = 0; b < 5; b++) {
                for (int p = 0; p < 4; p++) {
                    quiet &= x.deliver(b, p) == 0;
                }
            }
            if (quiet) {
                return;
            }
        }
        Check.report("the net comes to no rest");
    }

    static void ticks(BridgeNet x, int n) {
        for (int i = 0; i < n; i++) {
            x.tick();
        }
    }

    static void drain(BridgeNet x, int b, int p) {
        for (int i = 0; i < 12; i++) {
            x.lose(b, p);
        }
    }

    /** Bridges 0 and 1 linked at their ports 0, with all said and agreed. */
    static BridgeNet pair() {
        BridgeNet x = new BridgeNet();
        Check.yes("link(0, 0, 1, 0)", x.link(0, 0, 1, 0));
        settle(x);
        return x;
    }

    /** Bridges 0 - 1 - 2 in a row, port 1 of each linked to port 0 of the next, all agreed. */
    static BridgeNet row() {
        BridgeNet x = new BridgeNet();
        Check.yes("link(0, 1, 1, 0)", x.link(0, 1, 1, 0));
        Check.yes("link(1, 1, 2, 0)", x.link(1, 1, 2, 0));
        settle(x);
        return x;
    }

    /**
     * Bridges 1 and 2 with two links, whose way to the root is cut: they go on telling each other
     * of it. Bridge 1 has heard of 4 hops and takes itself to be 5 away; it has just told so.
     */
    static BridgeNet fiveHopsAway(int cost) {
        BridgeNet x = row();
        for (int p = 0; p < 3; p++) {
            x.set(1, p, cost, 3);
            x.set(2, p, cost, 3);
        }
        settle(x);
        x.link(1, 2, 2, 1);
        x.lose(1, 2);
        x.deliver(2, 0);
        x.deliver(2, 1);
        x.deliver(1, 2);
        Check.same("root of 2", x.root(2), root(64, 2 * cost, 2));
        Check.same("blocked", x.port(2, 1), BLOCKED_PORT);
        Check.same("agreed", x.port(1, 2), AGREED_PORT);
        x.cut(0, 1);
        x.deliver(2, 0);
        x.lose(2, 1);
        Check.same("the blocked port takes over", x.port(2, 1), ROOT_PORT);
        x.deliver(1, 1);
        Check.same("root of 1", x.root(1), root(64, 3 * cost, 3));
        x.deliver(2, 1);
        Check.same("root of 2", x.root(2), root(64, 4 * cost, 4));
        x.deliver(1, 1);
        Check.same("root of 1", x.root(1), root(64, 5 * cost, 5));
        return x;
    }

    /** All that can be asked of a net, as one text; it takes some 400 calls. */
    static String snapshot(BridgeNet x) {
        StringBuilder text = new StringBuilder();
        for (int b = 0; b < 5; b++) {
            text.append("bridge ").append(b).append(' ').append(x.root(b)).append('\n');
            for (int p = 0; p < 4; p++) {
                text.append(" port ").append(p).append(' ').append(x.port(b, p));
                text.append(" info ").append(x.info(b, p)).append(" line");
                int count = x.line(b, p);
                for (int k = 0; k < count; k++) {
                    text.append(' ').append(x.message(b, p, k));
                }
                text.append('\n');
            }
            for (int s = 0; s < 8; s++) {
                text.append(' ').append(x.learned(b, s, 1)).append(' ').append(x.learned(b, s, 2));
            }
            text.append('\n');
        }
        for (int s = 0; s < 8; s++) {
            long count = x.inbox(s, -1);
            text.append("inbox ").append(s);
            for (int k = 0; k < count; k++) {
                text.append(' ').append(x.inbox(s, k));
            }
            text.append('\n');
        }
        return text.toString();
    }
}
