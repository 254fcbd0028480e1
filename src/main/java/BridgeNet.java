/**
 * Bridges that join links into one net without loops: they choose a root, give their ports roles,
 * learn where stations are and pass frames on, VLAN by VLAN.
 */
public final class BridgeNet {
    private static final int BRIDGES = 5;
    private static final int PORTS = 4;
    private static final int STATIONS = 8;
    private static final int VLANS = 2;
    private static final int BOTH_VLANS = 3;

    private static final int MAX_PRIORITY = 15;
    private static final int MAX_COST = 50;
    private static final int FIRST_PRIORITY = 8;
    private static final int FIRST_COST = 10;

    private static final int LINE_ROOM = 12;
    private static final int INBOX_ROOM = 40;

    private static final int HOPS_TOO_MANY = 6;
    private static final int INFO_LIFE = 6;
    private static final int PLACE_LIFE = 12;
    private static final int WAIT = 4;

    private static final int RESERVED = 9;

    private static final int NO_ROLE = 0;
    private static final int ROOT = 1;
    private static final int DESIGNATED = 2;
    private static final int BLOCKED = 3;

    private static final int DISCARDING = 0;
    private static final int LEARNING = 1;
    private static final int FORWARDING = 2;

    private static final int NO_MESSAGE = 0;
    private static final int TELL = 1;
    private static final int AGREE = 2;
    private static final int FRAME = 3;

    private final Bridge[] bridges = new Bridge[BRIDGES];
    private final Station[] stations = new Station[STATIONS];
    private boolean tellsAtNextTick = false;

    public BridgeNet() {
        for (int b = 0; b < BRIDGES; b++) {
            bridges[b] = new Bridge(b);
            bridges[b].addPorts();
        }
        for (int s = 0; s < STATIONS; s++) {
            stations[s] = new Station();
        }
    }

    public boolean priority(int b, int priority) {
        if (!isBridge(b) || priority < 0 || priority > MAX_PRIORITY || !bridges[b].isUnused()) {
            return false;
        }
        bridges[b].rank(priority);
        bridges[b].compute();
        return true;
    }

    public boolean set(int b, int p, int cost, int vlans) {
        Port port = findPort(b, p);
        if (port == null || cost < 1 || cost > MAX_COST || vlans < 1 || vlans > BOTH_VLANS) {
            return false;
        }
        port.cost = cost;
        port.vlans = vlans;
        port.owner.compute();
        return true;
    }

    public boolean link(int b, int p, int c, int q) {
        Port one = findPort(b, p);
        Port other = findPort(c, q);
        if (one == null || other == null || b == c || !one.isFree() || !other.isFree()) {
            return false;
        }
        one.join(other, null);
        other.join(one, null);
        one.owner.compute();
        other.owner.compute();
        return true;
    }

    public boolean cut(int b, int p) {
        Port one = findPort(b, p);
        if (one == null || one.peer == null) {
            return false;
        }
        Port other = one.peer;
        one.join(null, null);
        other.join(null, null);
        one.owner.compute();
        other.owner.compute();
        return true;
    }

    public void attach(int s, int b, int p, int vlan)
            throws IndexOutOfBoundsException, IllegalArgumentException, IllegalStateException {
        Station station = findStation(s);
        Port port = findPort(b, p);
        if (station == null || port == null) {
            throw new IndexOutOfBoundsException("no such station or port");
        }
        if (!isVlan(vlan)) {
            throw new IllegalArgumentException("no such VLAN");
        }
        if (!port.isFree()) {
            throw new IllegalStateException("the port is not free");
        }
        station.leave();
        station.settle(port, vlan);
    }

    public int send(int s, int destination, int value)
            throws IndexOutOfBoundsException, IllegalStateException, IllegalArgumentException {
        Station station = findStation(s);
        if (station == null) {
            throw new IndexOutOfBoundsException("no such station");
        }
        Port port = station.place;
        if (port == null) {
            throw new IllegalStateException("the station is nowhere");
        }
        if (destination < 0 || destination > RESERVED) {
            throw new IllegalArgumentException("no such destination");
        }
        return port.owner.hearFrame(port, new Frame(s, destination, station.vlan, value));
    }

    public int deliver(int b, int p) throws IndexOutOfBoundsException {
        Port port = findPort(b, p);
        if (port == null) {
            throw new IndexOutOfBoundsException("no such port");
        }
        Message message = port.line.takeFirst();
        if (message == null) {
            return NO_MESSAGE;
        }
        switch (message.kind) {
            case TELL:
                port.owner.hearTell(port, message);
                break;
            case AGREE:
                port.owner.hearAgree(port, message.root);
                break;
            default:
                port.owner.hearFrame(port, message.frame);
                break;
        }
        return message.kind;
    }

    public boolean lose(int b, int p) {
        Port port = findPort(b, p);
        return port != null && port.line.takeFirst() != null;
    }

    public void tick() {
        for (int b = 0; b < BRIDGES; b++) {
            bridges[b].age();
            if (tellsAtNextTick) {
                bridges[b].tellOnAll();
            }
        }
        tellsAtNextTick = !tellsAtNextTick;
    }

    public int port(int b, int p) {
        Port port = findPort(b, p);
        return port == null ? -1 : port.summary();
    }

    public long root(int b) {
        return isBridge(b) ? bridges[b].summary() : -1;
    }

    public long info(int b, int p) {
        Port port = findPort(b, p);
        return port == null || !port.hasInfo ? -1 : port.infoSummary();
    }

    public int learned(int b, int s, int vlan) {
        if (!isBridge(b) || findStation(s) == null || !isVlan(vlan)) {
            return -1;
        }
        return bridges[b].placeOf(s, vlan);
    }

    public long inbox(int s, int k) {
        Station station = findStation(s);
        if (station == null) {
            return -1;
        }
        return k == -1 ? station.count : station.kept(k);
    }

    public int line(int b, int p) {
        Port port = findPort(b, p);
        return port == null ? -1 : port.line.count;
    }

    public long message(int b, int p, int k) {
        Port port = findPort(b, p);
        if (port == null) {
            return NO_MESSAGE;
        }
        Message message = port.line.at(k);
        return message == null ? NO_MESSAGE : message.summary();
    }

    private static boolean isBridge(int b) {
        return b >= 0 && b < BRIDGES;
    }

    private static boolean isVlan(int vlan) {
        return vlan >= 1 && vlan <= VLANS;
    }

    private Port findPort(int b, int p) {
        return isBridge(b) && p >= 0 && p < PORTS ? bridges[b].ports[p] : null;
    }

    private Station findStation(int s) {
        return s >= 0 && s < STATIONS ? stations[s] : null;
    }

    /**
     * Vectors (root's ID, cost, bridge's ID, port), each packed into one long with the most
     * important part uppermost, so that the lesser long is the better vector. The limit on hops
     * keeps every cost at or below 300, far within its 16 bits.
     */
    private static final class Vector {
        private static final int ROOT_SHIFT = 32;
        private static final int COST_SHIFT = 16;
        private static final int BRIDGE_SHIFT = 8;
        private static final int COST_MASK = 0xFFFF;
        private static final int BYTE_MASK = 0xFF;

        static long of(int root, int cost, int bridge, int port) {
            return ((long) root << ROOT_SHIFT) | ((long) cost << COST_SHIFT)
                    | ((long) bridge << BRIDGE_SHIFT) | port;
        }

        static long farther(long vector, int cost) {
            return vector + ((long) cost << COST_SHIFT);
        }

        static int rootOf(long vector) {
            return (int) (vector >> ROOT_SHIFT);
        }

        static int costOf(long vector) {
            return (int) (vector >> COST_SHIFT) & COST_MASK;
        }

        static int bridgeOf(long vector) {
            return (int) (vector >> BRIDGE_SHIFT) & BYTE_MASK;
        }

        static int portOf(long vector) {
            return (int) vector & BYTE_MASK;
        }
    }

    /** What a station sends; it never changes, so lines on its way share it. */
    private static final class Frame {
        final int source;
        final int destination;
        final int vlan;
        final int value;

        Frame(int source, int destination, int vlan, int value) {
            this.source = source;
            this.destination = destination;
            this.vlan = vlan;
            this.value = value;
        }

        long inboxEntry() {
            return (value & 0xFFFFFFFFL) + ((long) source << 32) + ((long) destination << 36);
        }
    }

    /** A place in a line, used again for message after message. */
    private static final class Message {
        int kind = NO_MESSAGE;
        int root = 0;
        long vector = 0;
        int hops = 0;
        boolean proposing = false;
        Frame frame = null;

        long summary() {
            if (frame != null) {
                return kind + 16L * frame.destination + 256L * frame.vlan;
            }
            return kind + 16L * root;
        }
    }

    /** The messages that come to a port, in a ring of places; one that finds no room is lost. */
    private static final class Line {
        private final Message[] ring = new Message[LINE_ROOM];
        private int first = 0;
        int count = 0;

        Line() {
            for (int i = 0; i < LINE_ROOM; i++) {
                ring[i] = new Message();
            }
        }

        void empty() {
            count = 0;
        }

        Message at(int k) {
            return k >= 0 && k < count ? ring[(first + k) % LINE_ROOM] : null;
        }

        /** The message stays as it is until the next one is put into this line. */
        Message takeFirst() {
            if (count == 0) {
                return null;
            }
            Message message = ring[first];
            first = (first + 1) % LINE_ROOM;
            count--;
            return message;
        }

        void putTell(long vector, int hops, boolean proposing) {
            Message message = put(TELL, Vector.rootOf(vector), null);
            if (message != null) {
                message.vector = vector;
                message.hops = hops;
                message.proposing = proposing;
            }
        }

        void putAgree(int root) {
            put(AGREE, root, null);
        }

        void putFrame(Frame frame) {
            put(FRAME, 0, frame);
        }

        private Message put(int kind, int root, Frame frame) {
            if (count == LINE_ROOM) {
                return null;
            }
            Message message = ring[(first + count) % LINE_ROOM];
            count++;
            message.kind = kind;
            message.root = root;
            message.frame = frame;
            return message;
        }
    }

    /** A station: where it is, and what has come to it. */
    private static final class Station {
        Port place = null;
        int vlan = 1;
        private final long[] inbox = new long[INBOX_ROOM];
        int count = 0;

        void leave() {
            if (place != null) {
                place.join(null, null);
                place.owner.compute();
                place = null;
            }
        }

        void settle(Port port, int newVlan) {
            place = port;
            vlan = newVlan;
            port.join(null, this);
            port.owner.compute();
        }

        void keep(Frame frame) {
            if (count < INBOX_ROOM) {
                inbox[count] = frame.inboxEntry();
                count++;
            }
        }

        long kept(int k) {
            return k >= 0 && k < count ? inbox[k] : -1;
        }
    }

    /** A port: what it is joined to, what it was told, and its role and state. */
    private static final class Port {
        final Bridge owner;
        final int number;
        final Line line = new Line();
        int cost = FIRST_COST;
        int vlans = BOTH_VLANS;
        Port peer = null;
        Station station = null;
        boolean hasInfo = false;
        long info = 0;
        private int infoHops = 0;
        private int infoLife = 0;
        int role = NO_ROLE;
        int state = DISCARDING;
        boolean proposing = false;
        private boolean agreed = false;
        private int waits = 0;

        Port(Bridge owner, int number) {
            this.owner = owner;
            this.number = number;
        }

        boolean isFree() {
            return peer == null && station == null;
        }

        boolean isLinkedDesignated() {
            return peer != null && role == DESIGNATED;
        }

        boolean carries(int vlan) {
            return (vlans & vlan) != 0;
        }

        int hopsThrough() {
            return infoHops + 1;
        }

        /** Joins the port to a link's other end, to a station, or (both null) to nothing. */
        void join(Port newPeer, Station newStation) {
            peer = newPeer;
            station = newStation;
            hasInfo = false;
            line.empty();
            owner.forgetBehind(number);
            become(NO_ROLE);
        }

        void become(int newRole) {
            role = newRole;
            agreed = false;
            if (newRole == DESIGNATED && station == null) {
                propose();
            } else {
                proposing = false;
                waits = 0;
                state = newRole == ROOT || newRole == DESIGNATED ? FORWARDING : DISCARDING;
            }
        }

        private void propose() {
            state = DISCARDING;
            proposing = true;
            waits = WAIT;
        }

        private void forward() {
            state = FORWARDING;
            proposing = false;
            waits = 0;
        }

        void hold(long vector, int hops) {
            hasInfo = true;
            info = vector;
            infoHops = hops;
            infoLife = INFO_LIFE;
        }

        /** Answers whether the port had to propose anew. */
        boolean proposeUnlessAgreed() {
            if (agreed) {
                return false;
            }
            propose();
            return true;
        }

        void takeAgreement() {
            forward();
            agreed = true;
        }

        void ageInfo() {
            if (hasInfo) {
                infoLife--;
                hasInfo = infoLife > 0;
            }
        }

        void ageWait() {
            if (!isLinkedDesignated() || state == FORWARDING) {
                return;
            }
            waits--;
            if (waits > 0) {
                return;
            }
            if (state == DISCARDING) {
                state = LEARNING;
                waits = WAIT;
            } else {
                forward();
            }
        }

        /** Answers whether the frame was let out, even where no room or no taker is left for it. */
        boolean letOut(Frame frame) {
            if (state != FORWARDING || !carries(frame.vlan)) {
                return false;
            }
            if (peer != null) {
                peer.line.putFrame(frame);
            } else if (station != null && station.vlan == frame.vlan) {
                station.keep(frame);
            }
            return true;
        }

        int summary() {
            return role + 4 * state + (proposing ? 16 : 0) + (agreed ? 32 : 0) + 64 * waits;
        }

        long infoSummary() {
            return Vector.rootOf(info) + ((long) Vector.costOf(info) << 8)
                    + ((long) Vector.bridgeOf(info) << 24) + ((long) Vector.portOf(info) << 32)
                    + ((long) infoHops << 40) + ((long) infoLife << 48);
        }
    }

    /** A bridge: its ports, who it takes for the root, and where it has learned stations to be. */
    private static final class Bridge {
        private final int number;
        private int id;
        final Port[] ports = new Port[PORTS];
        private int root;
        private int cost = 0;
        private int hops = 0;
        private Port rootPort = null;
        private final int[] places = new int[STATIONS * VLANS];
        private final int[] placeLives = new int[STATIONS * VLANS];

        Bridge(int number) {
            this.number = number;
            id = 8 * FIRST_PRIORITY + number;
            root = id;
        }

        /** Not in the constructor, which may not hand out the bridge that it makes. */
        void addPorts() {
            for (int p = 0; p < PORTS; p++) {
                ports[p] = new Port(this, p);
            }
        }

        boolean isUnused() {
            for (Port port : ports) {
                if (!port.isFree()) {
                    return false;
                }
            }
            return true;
        }

        void rank(int priority) {
            id = 8 * priority + number;
        }

        long summary() {
            return root + ((long) cost << 8) + ((long) hops << 24);
        }

        void compute() {
            int oldRoot = root;
            int oldCost = cost;
            int oldHops = hops;
            chooseRoot();
            boolean rolesChanged = giveRoles();
            if (rolesChanged || root != oldRoot || cost != oldCost || hops != oldHops) {
                tellOnAll();
            }
        }

        private void chooseRoot() {
            long best = Vector.of(id, 0, id, 0);
            hops = 0;
            rootPort = null;
            for (Port port : ports) {
                if (!port.hasInfo || Vector.bridgeOf(port.info) == id) {
                    continue;
                }
                long candidate = Vector.farther(port.info, port.cost);
                if (candidate < best) {
                    best = candidate;
                    hops = port.hopsThrough();
                    rootPort = port;
                }
            }
            root = Vector.rootOf(best);
            cost = Vector.costOf(best);
        }

        /** Answers whether any role has changed. */
        private boolean giveRoles() {
            boolean changed = false;
            for (Port port : ports) {
                int role = dueRole(port);
                if (role != port.role) {
                    port.become(role);
                    changed = true;
                }
            }
            return changed;
        }

        private int dueRole(Port port) {
            if (port.isFree()) {
                return NO_ROLE;
            }
            if (port.station != null) {
                return DESIGNATED;
            }
            if (port == rootPort) {
                return ROOT;
            }
            return !port.hasInfo || ownVector(port) < port.info ? DESIGNATED : BLOCKED;
        }

        private long ownVector(Port port) {
            return Vector.of(root, cost, id, port.number);
        }

        void tellOnAll() {
            for (Port port : ports) {
                if (port.isLinkedDesignated()) {
                    tellOn(port);
                }
            }
        }

        private void tellOn(Port port) {
            if (port.peer != null) {
                port.peer.line.putTell(ownVector(port), hops, port.proposing);
            }
        }

        void hearTell(Port port, Message tell) {
            if (tell.hops >= HOPS_TOO_MANY) {
                return;
            }
            port.hold(tell.vector, tell.hops);
            compute();
            if (tell.proposing) {
                answerProposal(port);
            }
        }

        private void answerProposal(Port port) {
            if (port.role == ROOT) {
                proposeOnOthers(port);
            }
            if (port.peer != null && (port.role == ROOT || port.role == BLOCKED)) {
                port.peer.line.putAgree(root);
            }
        }

        private void proposeOnOthers(Port asked) {
            for (Port port : ports) {
                if (port != asked && port.isLinkedDesignated() && port.proposeUnlessAgreed()) {
                    tellOn(port);
                }
            }
        }

        void hearAgree(Port port, int agreedRoot) {
            if (port.role == DESIGNATED && port.proposing && agreedRoot == root) {
                port.takeAgreement();
            }
        }

        /** Takes in a frame that comes to a port; answers on how many ports it was let out. */
        int hearFrame(Port from, Frame frame) {
            if (frame == null || from.state == DISCARDING || !from.carries(frame.vlan)) {
                return 0;
            }
            learn(frame.source, frame.vlan, from.number);
            if (from.state != FORWARDING || frame.destination == RESERVED) {
                return 0;
            }
            int place = frame.destination < STATIONS ? placeOf(frame.destination, frame.vlan) : -1;
            return place < 0 ? flood(from, frame) : passTo(place, from, frame);
        }

        private int passTo(int place, Port from, Frame frame) {
            return place != from.number && ports[place].letOut(frame) ? 1 : 0;
        }

        private int flood(Port from, Frame frame) {
            int outs = 0;
            for (Port port : ports) {
                if (port != from && port.letOut(frame)) {
                    outs++;
                }
            }
            return outs;
        }

        private static int placeIndex(int s, int vlan) {
            return s * VLANS + vlan - 1;
        }

        private void learn(int s, int vlan, int p) {
            int i = placeIndex(s, vlan);
            places[i] = p;
            placeLives[i] = PLACE_LIFE;
        }

        /** The port behind which a station was learned, or -1. */
        int placeOf(int s, int vlan) {
            int i = placeIndex(s, vlan);
            return placeLives[i] > 0 ? places[i] : -1;
        }

        void forgetBehind(int p) {
            for (int i = 0; i < places.length; i++) {
                if (places[i] == p) {
                    placeLives[i] = 0;
                }
            }
        }

        /** A tick for all that this bridge holds. */
        void age() {
            for (Port port : ports) {
                port.ageInfo();
            }
            for (int i = 0; i < placeLives.length; i++) {
                placeLives[i] = Math.max(0, placeLives[i] - 1);
            }
            for (Port port : ports) {
                port.ageWait();
            }
            compute();
        }
    }
}
