import java.util.ArrayList;
import java.util.Arrays;
import java.util.HashMap;
import java.util.List;
import java.util.Map;

/**
 * The document's words set down once more as plainly as they come, in tables and lists and without
 * a thought of speed: a second opinion on what every call answers. Exceptions are answered as texts.
 */
final class Model {
    private static final String OUT_OF_BOUNDS = "throws.IndexOutOfBoundsException";
    private static final String BAD_ARGUMENT = "throws.IllegalArgumentException";
    private static final String BAD_STATE = "throws.IllegalStateException";

    private final int[] id = {64, 65, 66, 67, 68};
    private final int[][] cost = filled(10);
    private final int[][] vlans = filled(3);
    /** Bridge and port of the other end, or null. */
    private final int[][][] other = new int[5][4][];
    private final int[][] station = filled(-1);
    private final List<List<List<int[]>>> lines = new ArrayList<>();
    /** root, cost, bridge, port, hops, life; or null. */
    private final int[][][] info = new int[5][4][];
    /** ROOT, COST, HOPS of each bridge. */
    private final int[][] best = {{64, 0, 0}, {65, 0, 0}, {66, 0, 0}, {67, 0, 0}, {68, 0, 0}};
    private final int[][] role = filled(0);
    private final int[][] state = filled(0);
    private final int[][] waits = filled(0);
    private final int[][] proposing = filled(0);
    private final int[][] agreed = filled(0);
    /** Of each bridge: station and VLAN as a text, to port and ticks. */
    private final List<Map<String, int[]>> places = new ArrayList<>();
    private final int[][] home = new int[8][];
    private final int[] vlanOf = new int[8];
    private final List<List<Long>> inboxes = new ArrayList<>();
    private int ticks = 0;

    Model() {
        for (int b = 0; b < 5; b++) {
            places.add(new HashMap<>());
            lines.add(new ArrayList<>());
            for (int p = 0; p < 4; p++) {
                lines.get(b).add(new ArrayList<>());
            }
        }
        for (int s = 0; s < 8; s++) {
            inboxes.add(new ArrayList<>());
        }
    }

    private static int[][] filled(int value) {
        int[][] table = new int[5][4];
        for (int[] row : table) {
            Arrays.fill(row, value);
        }
        return table;
    }

    private static boolean in(int x, int least, int most) {
        return least <= x && x <= most;
    }

    private static boolean isPort(int b, int p) {
        return in(b, 0, 4) && in(p, 0, 3);
    }

    private boolean free(int b, int p) {
        return other[b][p] == null && station[b][p] == -1;
    }

    boolean priority(int b, int priority) {
        if (!in(b, 0, 4) || !in(priority, 0, 15)) {
            return false;
        }
        for (int p = 0; p < 4; p++) {
            if (!free(b, p)) {
                return false;
            }
        }
        id[b] = 8 * priority + b;
        compute(b);
        return true;
    }

    boolean set(int b, int p, int newCost, int newVlans) {
        if (!isPort(b, p) || !in(newCost, 1, 50) || !in(newVlans, 1, 3)) {
            return false;
        }
        cost[b][p] = newCost;
        vlans[b][p] = newVlans;
        compute(b);
        return true;
    }

    boolean link(int b, int p, int c, int q) {
        if (!isPort(b, p) || !isPort(c, q) || b == c || !free(b, p) || !free(c, q)) {
            return false;
        }
        clear(b, p);
        clear(c, q);
        other[b][p] = new int[] {c, q};
        other[c][q] = new int[] {b, p};
        compute(b);
        compute(c);
        return true;
    }

    boolean cut(int b, int p) {
        if (!isPort(b, p) || other[b][p] == null) {
            return false;
        }
        int c = other[b][p][0];
        int q = other[b][p][1];
        other[b][p] = null;
        other[c][q] = null;
        clear(b, p);
        clear(c, q);
        compute(b);
        compute(c);
        return true;
    }

    private void clear(int b, int p) {
        info[b][p] = null;
        state[b][p] = 0;
        role[b][p] = 0;
        waits[b][p] = 0;
        proposing[b][p] = 0;
        agreed[b][p] = 0;
        lines.get(b).get(p).clear();
        places.get(b).values().removeIf(place -> place[0] == p);
    }

    String attach(int s, int b, int p, int vlan) {
        if (!in(s, 0, 7) || !isPort(b, p)) {
            return OUT_OF_BOUNDS;
        }
        if (!in(vlan, 1, 2)) {
            return BAD_ARGUMENT;
        }
        if (!free(b, p)) {
            return BAD_STATE;
        }
        if (home[s] != null) {
            int c = home[s][0];
            int q = home[s][1];
            station[c][q] = -1;
            clear(c, q);
            compute(c);
        }
        clear(b, p);
        home[s] = new int[] {b, p};
        vlanOf[s] = vlan;
        station[b][p] = s;
        compute(b);
        return "void";
    }

    String send(int s, int destination, int value) {
        if (!in(s, 0, 7)) {
            return OUT_OF_BOUNDS;
        }
        if (home[s] == null) {
            return BAD_STATE;
        }
        if (!in(destination, 0, 9)) {
            return BAD_ARGUMENT;
        }
        int[] frame = {3, s, destination, vlanOf[s], value};
        return "" + frameComes(home[s][0], home[s][1], frame);
    }

    String deliver(int b, int p) {
        if (!isPort(b, p)) {
            return OUT_OF_BOUNDS;
        }
        if (lines.get(b).get(p).isEmpty()) {
            return "0";
        }
        int[] message = lines.get(b).get(p).remove(0);
        if (message[0] == 1) {
            tellComes(b, p, message);
        } else if (message[0] == 2) {
            agreeComes(b, p, message[1]);
        } else {
            frameComes(b, p, message);
        }
        return "" + message[0];
    }

    boolean lose(int b, int p) {
        if (!isPort(b, p) || lines.get(b).get(p).isEmpty()) {
            return false;
        }
        lines.get(b).get(p).remove(0);
        return true;
    }

    void tick() {
        ticks++;
        for (int b = 0; b < 5; b++) {
            for (int p = 0; p < 4; p++) {
                if (info[b][p] != null && --info[b][p][5] == 0) {
                    info[b][p] = null;
                }
            }
            places.get(b).values().removeIf(place -> --place[1] == 0);
            for (int p = 0; p < 4; p++) {
                if (other[b][p] != null && role[b][p] == 2 && state[b][p] != 2
                        && --waits[b][p] == 0) {
                    state[b][p]++;
                    waits[b][p] = state[b][p] == 1 ? 4 : 0;
                    proposing[b][p] = state[b][p] == 1 ? proposing[b][p] : 0;
                }
            }
            compute(b);
            if (ticks % 2 == 0) {
                tellAll(b);
            }
        }
    }

    private static int compareVectors(int[] v, int[] w) {
        for (int i = 0; i < 4; i++) {
            if (v[i] != w[i]) {
                return v[i] < w[i] ? -1 : 1;
            }
        }
        return 0;
    }

    private void compute(int b) {
        int[] least = {id[b], 0, id[b], 0, 0};
        int rootPort = -1;
        for (int p = 0; p < 4; p++) {
            int[] i = info[b][p];
            if (i != null && i[2] != id[b]) {
                int[] candidate = {i[0], i[1] + cost[b][p], i[2], i[3], i[4] + 1};
                if (compareVectors(candidate, least) < 0) {
                    least = candidate;
                    rootPort = p;
                }
            }
        }
        int[] now = {least[0], least[1], least[4]};
        boolean changed = !Arrays.equals(now, best[b]);
        best[b] = now;
        for (int p = 0; p < 4; p++) {
            int due = dueRole(b, p, rootPort);
            if (due != role[b][p]) {
                changed = true;
                role[b][p] = due;
                boolean proposes = due == 2 && other[b][p] != null;
                state[b][p] = due == 1 || due == 2 && !proposes ? 2 : 0;
                proposing[b][p] = proposes ? 1 : 0;
                waits[b][p] = proposes ? 4 : 0;
                agreed[b][p] = 0;
            }
        }
        if (changed) {
            tellAll(b);
        }
    }

    private int dueRole(int b, int p, int rootPort) {
        if (free(b, p)) {
            return 0;
        }
        if (station[b][p] >= 0) {
            return 2;
        }
        if (p == rootPort) {
            return 1;
        }
        int[] i = info[b][p];
        return i == null || compareVectors(toTell(b, p), i) < 0 ? 2 : 3;
    }

    private int[] toTell(int b, int p) {
        return new int[] {best[b][0], best[b][1], id[b], p};
    }

    private void tellAll(int b) {
        for (int p = 0; p < 4; p++) {
            if (other[b][p] != null && role[b][p] == 2) {
                tell(b, p);
            }
        }
    }

    private void tell(int b, int p) {
        int[] v = toTell(b, p);
        put(b, p, new int[] {1, v[0], v[1], v[2], v[3], best[b][2], proposing[b][p]});
    }

    /** Puts a message into the line at the other end. */
    private void put(int b, int p, int[] message) {
        List<int[]> line = lines.get(other[b][p][0]).get(other[b][p][1]);
        if (line.size() < 12) {
            line.add(message);
        }
    }

    private void tellComes(int b, int p, int[] m) {
        if (m[5] >= 6) {
            return;
        }
        info[b][p] = new int[] {m[1], m[2], m[3], m[4], m[5], 6};
        compute(b);
        if (m[6] == 0 || role[b][p] != 1 && role[b][p] != 3) {
            return;
        }
        for (int o = 0; role[b][p] == 1 && o < 4; o++) {
            if (o != p && other[b][o] != null && role[b][o] == 2 && agreed[b][o] == 0) {
                state[b][o] = 0;
                proposing[b][o] = 1;
                waits[b][o] = 4;
                tell(b, o);
            }
        }
        put(b, p, new int[] {2, best[b][0]});
    }

    private void agreeComes(int b, int p, int root) {
        if (role[b][p] == 2 && proposing[b][p] == 1 && root == best[b][0]) {
            state[b][p] = 2;
            agreed[b][p] = 1;
            proposing[b][p] = 0;
            waits[b][p] = 0;
        }
    }

    private int frameComes(int b, int p, int[] frame) {
        int vlan = frame[3];
        if (state[b][p] == 0 || (vlans[b][p] & vlan) == 0) {
            return 0;
        }
        places.get(b).put(frame[1] + "/" + vlan, new int[] {p, 12});
        if (state[b][p] != 2 || frame[2] == 9) {
            return 0;
        }
        int[] place = places.get(b).get(frame[2] + "/" + vlan);
        int outs = 0;
        for (int o = 0; o < 4; o++) {
            if (o != p && (place == null || place[0] == o) && goesOut(b, o, frame)) {
                outs++;
            }
        }
        return outs;
    }

    private boolean goesOut(int b, int p, int[] frame) {
        if (state[b][p] != 2 || (vlans[b][p] & frame[3]) == 0) {
            return false;
        }
        if (other[b][p] != null) {
            put(b, p, frame);
            return true;
        }
        int s = station[b][p];
        if (vlanOf[s] == frame[3] && inboxes.get(s).size() < 40) {
            inboxes.get(s).add(Nets.kept(frame[1], frame[2], frame[4]));
        }
        return true;
    }

    int port(int b, int p) {
        return !isPort(b, p) ? -1 : role[b][p] + 4 * state[b][p] + 16 * proposing[b][p]
                + 32 * agreed[b][p] + 64 * waits[b][p];
    }

    long root(int b) {
        return !in(b, 0, 4) ? -1 : Nets.root(best[b][0], best[b][1], best[b][2]);
    }

    long info(int b, int p) {
        if (!isPort(b, p) || info[b][p] == null) {
            return -1;
        }
        int[] i = info[b][p];
        return Nets.info(i[0], i[1], i[2], i[3], i[4], i[5]);
    }

    int learned(int b, int s, int vlan) {
        if (!in(b, 0, 4)) {
            return -1;
        }
        int[] place = places.get(b).get(s + "/" + vlan);
        return place == null ? -1 : place[0];
    }

    long inbox(int s, int k) {
        if (!in(s, 0, 7)) {
            return -1;
        }
        List<Long> inbox = inboxes.get(s);
        return k == -1 ? inbox.size() : in(k, 0, inbox.size() - 1) ? inbox.get(k) : -1;
    }

    int line(int b, int p) {
        return isPort(b, p) ? lines.get(b).get(p).size() : -1;
    }

    long message(int b, int p, int k) {
        if (!in(k, 0, line(b, p) - 1)) {
            return 0;
        }
        int[] m = lines.get(b).get(p).get(k);
        return m[0] == 3 ? Nets.frame(m[2], m[3]) : m[0] + 16L * m[1];
    }
}
