import java.util.Random;

/** One call of the face with its arguments, so that it can be made on several objects. */
final class Call {
    static final String[] NAMES = {
        "priority", "set", "link", "cut", "attach", "send", "deliver", "lose", "tick",
        "port", "root", "info", "learned", "inbox", "line", "message",
    };
    private static final int[] ARGUMENTS = {2, 4, 4, 2, 4, 3, 2, 2, 0, 2, 1, 2, 3, 2, 2, 3};
    /** How often each call is made: enough links and deliveries that nets come to life. */
    private static final int[] WEIGHTS = {2, 4, 8, 1, 6, 12, 45, 2, 9, 2, 2, 2, 2, 2, 2, 2};
    private static final int FIRST_QUERY = 9;

    private final int name;
    private final int[] a;

    private Call(int name, int[] arguments) {
        this.name = name;
        this.a = arguments;
    }

    /** The call of the name with this number and with these arguments. */
    static Call of(int name, int[] arguments) {
        return new Call(name, arguments);
    }

    /** A call that may be good; one in wrongIn has an argument out of bounds or at an edge. */
    static Call random(Random random, int wrongIn) {
        return random(random, wrongIn, pick(random));
    }

    /** Such a call of the name with this number. */
    static Call random(Random random, int wrongIn, int name) {
        int[] a = new int[ARGUMENTS[name]];
        for (int i = 0; i < a.length; i++) {
            a[i] = argument(random, name, i);
        }
        if (a.length > 0 && random.nextInt(wrongIn) == 0) {
            int[] odd = {-2, -1, 0, 3, 4, 5, 7, 8, 9, 10, 15, 16, 50, 51,
                Integer.MIN_VALUE, Integer.MAX_VALUE};
            a[random.nextInt(a.length)] = odd[random.nextInt(odd.length)];
        }
        return new Call(name, a);
    }

    private static int pick(Random random) {
        int sum = 0;
        for (int weight : WEIGHTS) {
            sum += weight;
        }
        int left = random.nextInt(sum);
        int name = 0;
        while (left >= WEIGHTS[name]) {
            left -= WEIGHTS[name];
            name++;
        }
        return name;
    }

    private static int argument(Random random, int name, int i) {
        switch (NAMES[name]) {
            case "priority":
                return i == 0 ? random.nextInt(5) : random.nextInt(16);
            case "set":
                return i < 2 ? random.nextInt(5 - i) : i == 2 ? 1 + random.nextInt(50) : random(random);
            case "link":
                return random.nextInt(5 - i % 2);
            case "attach":
                return i == 3 ? 1 + random.nextInt(2) : random.nextInt(i == 0 ? 8 : 6 - i);
            case "send":
                return i == 2 ? random.nextInt() : random.nextInt(i == 0 ? 8 : 10);
            case "learned":
                return i == 2 ? 1 + random.nextInt(2) : random.nextInt(i == 0 ? 5 : 8);
            case "inbox":
                return i == 0 ? random.nextInt(8) : random.nextInt(5) - 1;
            default:
                return i == 2 ? random.nextInt(3) : random.nextInt(5 - i);
        }
    }

    /** VLANs of a port, both more often than one. */
    private static int random(Random random) {
        return Math.min(3, 1 + random.nextInt(5));
    }

    boolean isQuery() {
        return name >= FIRST_QUERY;
    }

    /** The answer as a text; "void", or the exception's name behind "throws.". */
    String on(BridgeNet x) {
        try {
            return answer(x);
        } catch (RuntimeException e) {
            return "throws." + e.getClass().getSimpleName();
        }
    }

    private String answer(BridgeNet x) {
        switch (NAMES[name]) {
            case "priority": return "" + x.priority(a[0], a[1]);
            case "set": return "" + x.set(a[0], a[1], a[2], a[3]);
            case "link": return "" + x.link(a[0], a[1], a[2], a[3]);
            case "cut": return "" + x.cut(a[0], a[1]);
            case "attach": x.attach(a[0], a[1], a[2], a[3]); return "void";
            case "send": return "" + x.send(a[0], a[1], a[2]);
            case "deliver": return "" + x.deliver(a[0], a[1]);
            case "lose": return "" + x.lose(a[0], a[1]);
            case "tick": x.tick(); return "void";
            default: return query(x);
        }
    }

    private String query(BridgeNet x) {
        switch (NAMES[name]) {
            case "port": return "" + x.port(a[0], a[1]);
            case "root": return "" + x.root(a[0]);
            case "info": return "" + x.info(a[0], a[1]);
            case "learned": return "" + x.learned(a[0], a[1], a[2]);
            case "inbox": return "" + x.inbox(a[0], a[1]);
            case "line": return "" + x.line(a[0], a[1]);
            default: return "" + x.message(a[0], a[1], a[2]);
        }
    }

    /** The answer of the plain model, in the same words. */
    String on(Model m) {
        switch (NAMES[name]) {
            case "priority": return "" + m.priority(a[0], a[1]);
            case "set": return "" + m.set(a[0], a[1], a[2], a[3]);
            case "link": return "" + m.link(a[0], a[1], a[2], a[3]);
            case "cut": return "" + m.cut(a[0], a[1]);
            case "attach": return m.attach(a[0], a[1], a[2], a[3]);
            case "send": return m.send(a[0], a[1], a[2]);
            case "deliver": return m.deliver(a[0], a[1]);
            case "lose": return "" + m.lose(a[0], a[1]);
            case "tick": m.tick(); return "void";
            case "port": return "" + m.port(a[0], a[1]);
            case "root": return "" + m.root(a[0]);
            case "info": return "" + m.info(a[0], a[1]);
            case "learned": return "" + m.learned(a[0], a[1], a[2]);
            case "inbox": return "" + m.inbox(a[0], a[1]);
            case "line": return "" + m.line(a[0], a[1]);
            default: return "" + m.message(a[0], a[1], a[2]);
        }
    }

    @Override
    public String toString() {
        StringBuilder text = new StringBuilder(NAMES[name]).append('(');
        for (int i = 0; i < a.length; i++) {
            text.append(i == 0 ? "" : ", ").append(a[i]);
        }
        return text.append(')').toString();
    }
}
