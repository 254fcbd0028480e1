import java.util.Arrays;
import java.util.Random;

/** What the whole is for: at rest every net is one tree, with the least ID as its root. */
public final class TreeTest {
    private static final int NETS = 500;
    private static final int FAR = 1000000;
    /** Of the 512 calls of an object, some 150 are for building the net and looking at it. */
    private static final int DELIVERIES = 360;

    private final BridgeNet x = new BridgeNet();
    private int deliveries = 0;
    private final int[] ids = {64, 65, 66, 67, 68};
    private final int[][] costs = new int[5][4];
    /** Bridge and port of the other end, as 4 * bridge + port; -1 for none. */
    private final int[][] ends = new int[5][4];

    public static void main(String[] args) {
        int seen = 0;
        for (int seed = 0; seed < NETS; seed++) {
            TreeTest net = new TreeTest();
            net.build(new Random(seed));
            net.rest();
            net.checkRoots(seed);
            net.checkTree(seed);
            if (net.deliveries <= DELIVERIES) {
                net.checkFrames(seed, seed % 5);
                seen++;
            }
        }
        Check.yes("nearly all nets need few calls", seen >= NETS - 5);
        Check.end();
    }

    private void build(Random random) {
        for (int b = 0; b < 5; b++) {
            Arrays.fill(ends[b], -1);
            int priority = random.nextInt(16);
            ids[b] = 8 * priority + b;
            x.priority(b, priority);
            for (int p = 0; p < 4; p++) {
                costs[b][p] = 1 + random.nextInt(50);
                x.set(b, p, costs[b][p], 3);
            }
        }
        for (int i = 0; i < 10; i++) {
            int b = random.nextInt(5);
            int p = random.nextInt(3);
            int c = random.nextInt(5);
            int q = random.nextInt(3);
            if (x.link(b, p, c, q)) {
                ends[b][p] = 4 * c + q;
                ends[c][q] = 4 * b + p;
            }
        }
        for (int b = 0; b < 5; b++) {
            x.attach(b, b, 3, 1);
        }
    }

    /** Long enough for what was told early to die. */
    private void rest() {
        for (int i = 0; i < 7; i++) {
            deliverAll();
            x.tick();
        }
        deliverAll();
    }

    private void deliverAll() {
        boolean quiet = false;
        for (int round = 0; round < 100 && !quiet; round++) {
            quiet = true;
            for (int b = 0; b < 5; b++) {
                for (int p = 0; p < 4; p++) {
                    quiet &= ends[b][p] < 0 || deliver(b, p) == 0;
                }
            }
        }
        Check.yes("the net comes to rest", quiet);
    }

    private int deliver(int b, int p) {
        deliveries++;
        return x.deliver(b, p);
    }

    /** The least costs from each bridge to the one with the least ID that it can reach. */
    private void checkRoots(int seed) {
        for (int b = 0; b < 5; b++) {
            int root = b;
            for (int c = 0; c < 5; c++) {
                if (distance(b, c) < FAR && ids[c] < ids[root]) {
                    root = c;
                }
            }
            Check.same("net " + seed + ": root of " + b, x.root(b) % 256, ids[root]);
            Check.same("net " + seed + ": cost of " + b, x.root(b) / 256 % 65536,
                    distance(b, root));
        }
    }

    private int distance(int from, int to) {
        int[] least = new int[5];
        Arrays.fill(least, FAR);
        least[to] = 0;
        for (int round = 0; round < 5; round++) {
            for (int b = 0; b < 5; b++) {
                for (int p = 0; p < 4; p++) {
                    if (ends[b][p] >= 0) {
                        least[b] = Math.min(least[b], costs[b][p] + least[ends[b][p] / 4]);
                    }
                }
            }
        }
        return least[from];
    }

    private void checkTree(int seed) {
        int open = 0;
        for (int b = 0; b < 5; b++) {
            for (int p = 0; p < 4; p++) {
                if (ends[b][p] > 4 * b + p && forwards(4 * b + p) && forwards(ends[b][p])) {
                    open++;
                }
            }
        }
        int roots = 0;
        for (int b = 0; b < 5; b++) {
            roots += x.root(b) == ids[b] ? 1 : 0;
        }
        Check.same("net " + seed + ": open links and trees", open + roots, 5);
    }

    private boolean forwards(int end) {
        return (x.port(end / 4, end % 4) >> 2 & 3) == Nets.FORWARDING;
    }

    /** A frame for all comes once to every station that can be reached. */
    private void checkFrames(int seed, int s) {
        x.send(s, 8, seed);
        deliverAll();
        for (int o = 0; o < 5; o++) {
            int due = o != s && distance(o, s) < FAR ? 1 : 0;
            Check.same("net " + seed + ": frames from " + s + " at " + o, x.inbox(o, -1), due);
        }
    }
}
