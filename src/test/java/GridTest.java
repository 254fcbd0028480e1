import java.util.Random;

/**
 * Every call with every choice of arguments at the edges, the last within and the first beyond on
 * both sides, on nets in use: its answer and all that follows are held against the plain model.
 */
public final class GridTest {
    private static final int[] BRIDGE = {Integer.MIN_VALUE, -1, 0, 4, 5, Integer.MAX_VALUE};
    private static final int[] PORT = {Integer.MIN_VALUE, -1, 0, 3, 4, Integer.MAX_VALUE};
    private static final int[] STATION = {Integer.MIN_VALUE, -1, 0, 7, 8, Integer.MAX_VALUE};
    private static final int[] PRIORITY = {Integer.MIN_VALUE, -1, 0, 15, 16, Integer.MAX_VALUE};
    private static final int[] COST = {Integer.MIN_VALUE, 0, 1, 50, 51, Integer.MAX_VALUE};
    private static final int[] VLAN = {Integer.MIN_VALUE, 0, 1, 2, 3, Integer.MAX_VALUE};
    private static final int[] VLAN_SET = {Integer.MIN_VALUE, 0, 1, 3, 4, Integer.MAX_VALUE};
    private static final int[] DESTINATION = {Integer.MIN_VALUE, -1, 0, 7, 8, 9, 10,
        Integer.MAX_VALUE};
    private static final int[] VALUE = {Integer.MIN_VALUE, -1, 0, Integer.MAX_VALUE};
    private static final int[] IN_INBOX = {Integer.MIN_VALUE, -2, -1, 0, 39, 40, Integer.MAX_VALUE};
    private static final int[] IN_LINE = {Integer.MIN_VALUE, -1, 0, 11, 12, Integer.MAX_VALUE};

    private static final int CALLS_BEFORE = 120;
    private static final int CALLS_AFTER = 80;

    private static int seed = 0;

    public static void main(String[] args) {
        grid("priority", BRIDGE, PRIORITY);
        grid("set", BRIDGE, PORT, COST, VLAN_SET);
        grid("link", BRIDGE, PORT, BRIDGE, PORT);
        grid("cut", BRIDGE, PORT);
        grid("attach", STATION, BRIDGE, PORT, VLAN);
        grid("send", STATION, DESTINATION, VALUE);
        grid("deliver", BRIDGE, PORT);
        grid("lose", BRIDGE, PORT);
        grid("tick");
        grid("port", BRIDGE, PORT);
        grid("root", BRIDGE);
        grid("info", BRIDGE, PORT);
        grid("learned", BRIDGE, STATION, VLAN);
        grid("inbox", STATION, IN_INBOX);
        grid("line", BRIDGE, PORT);
        grid("message", BRIDGE, PORT, IN_LINE);
        Check.end();
    }

    /** Counts through all choices as through the digits of a number, two nets for each. */
    private static void grid(String name, int[]... choices) {
        int all = 1;
        for (int[] choice : choices) {
            all *= choice.length;
        }
        for (int i = 0; i < 2 * all; i++) {
            int[] arguments = new int[choices.length];
            int rest = i / 2;
            for (int k = 0; k < choices.length; k++) {
                arguments[k] = choices[k][rest % choices[k].length];
                rest /= choices[k].length;
            }
            onANet(Call.of(number(name), arguments));
        }
    }

    private static int number(String name) {
        int number = 0;
        while (!Call.NAMES[number].equals(name)) {
            number++;
        }
        return number;
    }

    private static void onANet(Call call) {
        Random random = new Random(seed++);
        BridgeNet x = new BridgeNet();
        Model m = new Model();
        for (int i = 0; i < CALLS_BEFORE; i++) {
            Call before = Call.random(random, 50);
            before.on(x);
            before.on(m);
        }
        compare(call, call, x, m);
        for (int i = 0; i < CALLS_AFTER; i++) {
            compare(call, Call.random(random, 50), x, m);
        }
    }

    private static void compare(Call edge, Call call, BridgeNet x, Model m) {
        String got = call.on(x);
        String due = call.on(m);
        if (!got.equals(due)) {
            Check.report("at or after " + edge + ": " + call + " answered " + got + ", due is " + due);
        }
    }
}
