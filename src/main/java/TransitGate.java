import java.util.ArrayList;

/**
 * A gate between a net of IPv6 (inside) and one of IPv4 (outside).
 *
 * <p>Packets come onto a tape, are judged, and leave as the packet that was made last. No call
 * throws: whatever cannot be done is told by the answer.
 */
public final class TransitGate {
    private static final int ICMP = 1;
    private static final int TCP = 6;
    private static final int UDP = 17;
    private static final int ICMP6 = 58;

    private static final int HEAD4 = 20;
    private static final int HEAD6 = 40;
    /** Where the packet within an ICMP error begins: behind the header and eight bytes. */
    private static final int WITHIN4 = 28;
    private static final int WITHIN6 = 48;

    /** The first byte of an IPv4 packet: version 4, a header of five words. */
    private static final int FIVE_WORDS = 0x45;
    private static final int DONT_FRAGMENT = 0x4000;
    /** More fragments follow, or the packet is not the first. */
    private static final int FRAGMENT_BITS = 0x3FFF;

    private static final int MADE = 0;
    private static final int SHORT = 10;
    private static final int KIND = 11;
    private static final int SUM = 12;
    private static final int LATE = 13;
    private static final int PLACE = 14;
    private static final int TABLE = 15;

    private static final int PLAIN = 0;
    private static final int FIN = 1;
    private static final int SYN = 2;
    private static final int RST = 3;

    private static final int UNREACHABLE4 = 3;
    private static final int EXCEEDED4 = 11;
    private static final int ECHO4 = 8;
    private static final int ECHO_REPLY4 = 0;
    private static final int ECHO6 = 128;
    private static final int ECHO_REPLY6 = 129;

    private static final int TAPE_ROOM = 1600;
    /** A packet from outside grows by 20 bytes, as its header does. */
    private static final int OUT_ROOM = 1620;
    private static final int FEED_BYTES = 20;
    private static final int MOST_TICKS = 10000;
    private static final int MOST_UNMARKED = 1260;
    private static final int LAST_IDENTIFICATION = 65535;
    private static final int LEAST_MTU6 = 1280;

    private final Bytes tape;
    private final Bytes out;
    private final Site site;
    private final Pool addresses;
    private final Table table;
    private final int[] dropped;
    private int made;
    private int identification;

    public TransitGate() {
        tape = new Bytes(TAPE_ROOM);
        out = new Bytes(OUT_ROOM);
        site = new Site();
        addresses = new Pool();
        table = new Table();
        dropped = new int[TABLE - SHORT + 1];
        made = 0;
        identification = 1;
    }

    public boolean prefix(long high, long low, int length) {
        if (!site.settle(high, low, length)) {
            return false;
        }
        table.forget();
        return true;
    }

    public int pool(int address) {
        return addresses.join(address);
    }

    public long high(int address) {
        return site.embedHigh(address);
    }

    public long low(int address) {
        return site.embedLow(address);
    }

    public long drawn(long high, long low) {
        return site.draw(high, low);
    }

    public boolean feed(int a, int b, int c, int d, int e) {
        int at = tape.length();
        if (at + FEED_BYTES > TAPE_ROOM) {
            return false;
        }
        tape.resize(at + FEED_BYTES);
        tape.putQuad(at, a);
        tape.putQuad(at + 4, b);
        tape.putQuad(at + 8, c);
        tape.putQuad(at + 12, d);
        tape.putQuad(at + 16, e);
        return true;
    }

    public int inside(int n) {
        if (n < 0 || n > tape.length()) {
            return -1;
        }
        tape.resize(n);
        return closePacket(passFromInside());
    }

    public int outside(int n) {
        if (n < 0 || n > tape.length()) {
            return -1;
        }
        tape.resize(n);
        return closePacket(passFromOutside());
    }

    public int word(int i) {
        // The bound keeps 4 i from running over.
        if (i < 0 || i >= OUT_ROOM) {
            return 0;
        }
        return out.quad(4 * i);
    }

    public int take() {
        int length = out.length();
        if (length > TAPE_ROOM) {
            return -1;
        }
        tape.resize(length);
        tape.copy(out, 0, 0, length);
        return length;
    }

    public int bend(int i, int mask) {
        if (i < 0 || i >= tape.length()) {
            return -1;
        }
        int before = tape.octet(i);
        tape.put(i, before ^ mask);
        return before;
    }

    public int sign(int n, int at) {
        int head = Part.headOf(tape);
        if (head == 0 || n < head || n > tape.length() || at < head || at > n - 2) {
            return -1;
        }
        int sum = Sums.ofPart(tape, n, head, at);
        tape.putPair(at, sum);
        return sum;
    }

    public int signHead() {
        if (tape.length() < HEAD4) {
            return -1;
        }
        int sum = Sums.ofHead(tape);
        tape.putPair(10, sum);
        return sum;
    }

    public int tick(int n) {
        if (n < 0 || n > MOST_TICKS) {
            return -1;
        }
        return table.pass(n);
    }

    public int binding(int i, int what) {
        Binding found = table.bindingAt(i);
        if (found == null) {
            return -1;
        }
        switch (what) {
            case 0: return found.protocol;
            case 1: return found.innerPort;
            case 2: return found.poolNumber;
            case 3: return found.outerPort;
            case 4: return table.sessionsOf(found);
            default: return -1;
        }
    }

    public long inner(int i, boolean low) {
        Binding found = table.bindingAt(i);
        if (found == null) {
            return 0;
        }
        return low ? found.innerLow : found.innerHigh;
    }

    public int session(int i, int what) {
        Session found = table.sessionAt(i);
        if (found == null) {
            return -1;
        }
        switch (what) {
            case 0: return table.numberOf(found.owner);
            case 1: return found.farAddress;
            case 2: return found.farPort;
            case 3: return found.state;
            case 4: return (int) (found.end - table.time());
            default: return -1;
        }
    }

    public int count(int what) {
        switch (what) {
            case 0: return table.bindingCount();
            case 1: return table.sessionCount();
            case 2: return addresses.size();
            case 3: return site.bits();
            case 4: return tape.length();
            case 5: return out.length();
            case 6: return (int) Math.min(table.time(), (long) Integer.MAX_VALUE);
            case 7: return made;
            case 16: return identification;
            default: return what >= SHORT && what <= TABLE ? dropped[what - SHORT] : -1;
        }
    }

    /** Empties the tape, counts what became of its packet, and gives the call's answer. */
    private int closePacket(int verdict) {
        tape.resize(0);
        if (verdict >= SHORT && verdict <= TABLE) {
            dropped[verdict - SHORT]++;
            return -verdict;
        }
        made++;
        return out.length();
    }

    private int passFromInside() {
        int fault = Rules.faultFromInside(tape, site, addresses);
        if (fault != MADE) {
            return fault;
        }
        Flow flow = Flow.fromInside(tape, (int) site.draw(tape.eight(24), tape.eight(32)));
        Binding owner =
                table.admitFromInside(flow, tape.eight(8), tape.eight(16), addresses.size());
        if (owner == null) {
            return TABLE;
        }
        boolean unmarked = tape.length() - HEAD6 + HEAD4 <= MOST_UNMARKED;
        int outer = addresses.at(owner.poolNumber);
        Maker.toFour(tape, out, owner, outer, flow.farAddress, unmarked ? identification : 0);
        if (unmarked) {
            identification = identification == LAST_IDENTIFICATION ? 1 : identification + 1;
        }
        return MADE;
    }

    private int passFromOutside() {
        int fault = Rules.faultFromOutside(tape, site, addresses);
        if (fault != MADE) {
            return fault;
        }
        if (Part.isError(tape)) {
            return passError();
        }
        Flow flow = Flow.fromOutside(tape);
        Binding owner = table.admitFromOutside(flow, addresses.numberOf(tape.quad(16)));
        if (owner == null) {
            return TABLE;
        }
        Maker.toSix(tape, out, owner, site);
        return MADE;
    }

    private int passError() {
        int protocol = tape.octet(WITHIN4 + 9);
        int number = addresses.numberOf(tape.quad(WITHIN4 + 12));
        int port = Part.sourcePort(tape, WITHIN4 + HEAD4, protocol);
        Binding owner = table.byOuter(protocol, number, port);
        if (owner == null) {
            return TABLE;
        }
        Maker.errorToSix(tape, out, owner, site);
        Maker.withinToSix(tape, out, owner, site);
        Sums.putPart(out, HEAD6);
        return MADE;
    }

    /** A row of bytes with a length of its own; beyond it all is 0, and nothing can be put. */
    private static final class Bytes {
        private final byte[] cells;
        private int length;

        Bytes(int room) {
            cells = new byte[Math.max(room, 0)];
            length = 0;
        }

        int length() {
            return length;
        }

        void resize(int wanted) {
            length = Math.max(0, Math.min(wanted, cells.length));
        }

        int octet(int i) {
            return i >= 0 && i < length ? cells[i] & 255 : 0;
        }

        int pair(int i) {
            return (int) number(i, 2);
        }

        int quad(int i) {
            return (int) number(i, 4);
        }

        long eight(int i) {
            return number(i, 8);
        }

        void put(int i, int value) {
            if (i >= 0 && i < length) {
                cells[i] = (byte) value;
            }
        }

        void putPair(int i, int value) {
            putNumber(i, 2, value);
        }

        void putQuad(int i, int value) {
            putNumber(i, 4, value);
        }

        void putEight(int i, long value) {
            putNumber(i, 8, value);
        }

        private long number(int at, int many) {
            long value = 0;
            for (int k = 0; k < many; k++) {
                int i = at + k;
                value = value << 8 | (i >= 0 && i < length ? cells[i] & 255 : 0);
            }
            return value;
        }

        private void putNumber(int at, int many, long value) {
            for (int k = 0; k < many; k++) {
                int i = at + k;
                if (i >= 0 && i < length) {
                    cells[i] = (byte) (value >>> 8 * (many - 1 - k));
                }
            }
        }

        void copy(Bytes source, int from, int to, int many) {
            boolean sound = many > 0 && from >= 0 && to >= 0;
            if (sound && many <= source.length - from && many <= length - to) {
                System.arraycopy(source.cells, from, cells, to, many);
            }
        }
    }

    /** The checksums of headers and of the parts behind them. */
    private static final class Sums {
        static int ofHead(Bytes packet) {
            return closed(words(packet, 0, HEAD4, 10));
        }

        /** What must stand at a byte of the part behind a header, in a packet of n bytes. */
        static int ofPart(Bytes packet, int n, int head, int at) {
            int protocol = Part.protocolOf(packet, head);
            int total = words(packet, head, n, at);
            if (head == HEAD6 || protocol != ICMP) {
                // Both headers end with their two addresses.
                int addressesAt = head == HEAD6 ? 8 : 12;
                total += words(packet, addressesAt, head, head) + (n - head) + protocol;
            }
            int sum = closed(total);
            return protocol == UDP && sum == 0 ? 65535 : sum;
        }

        static boolean headIsRight(Bytes packet) {
            return packet.pair(10) == ofHead(packet);
        }

        static boolean partIsRight(Bytes packet, int head) {
            int at = head + Part.sumAt(Part.protocolOf(packet, head));
            return packet.pair(at) == ofPart(packet, packet.length(), head, at);
        }

        static void putPart(Bytes packet, int head) {
            int at = head + Part.sumAt(Part.protocolOf(packet, head));
            packet.putPair(at, ofPart(packet, packet.length(), head, at));
        }

        /** The plain sum of the words from one byte up to another, two bytes taken as 0. */
        private static int words(Bytes packet, int from, int to, int hole) {
            int total = 0;
            for (int i = from; i < to; i++) {
                if (i != hole && i != hole + 1) {
                    total += (i - from & 1) == 0 ? packet.octet(i) << 8 : packet.octet(i);
                }
            }
            return total;
        }

        private static int closed(int total) {
            int once = (total & 65535) + (total >>> 16);
            // The first fold may carry once more.
            int folded = (once & 65535) + (once >>> 16);
            return ~folded & 65535;
        }
    }

    /** Where the fields of a header's protocol and of the part behind it stand. */
    private static final class Part {
        /** How many bytes the header has by the packet's version; 0 of an unknown version. */
        static int headOf(Bytes packet) {
            int version = packet.octet(0) >>> 4;
            if (version == 4) {
                return HEAD4;
            }
            return version == 6 ? HEAD6 : 0;
        }

        static int protocolOf(Bytes packet, int head) {
            return packet.octet(head == HEAD6 ? 6 : 9);
        }

        static int sumAt(int protocol) {
            if (protocol == TCP) {
                return 16;
            }
            return protocol == UDP ? 6 : 2;
        }

        static boolean hasPorts(int protocol) {
            return protocol == TCP || protocol == UDP;
        }

        /** Where the sender's port stands in the part; of ICMP the identifier. */
        static int sourcePortAt(int protocol) {
            return hasPorts(protocol) ? 0 : 4;
        }

        static int destinationPortAt(int protocol) {
            return hasPorts(protocol) ? 2 : 4;
        }

        static int sourcePort(Bytes packet, int part, int protocol) {
            return packet.pair(part + sourcePortAt(protocol));
        }

        static int destinationPort(Bytes packet, int part, int protocol) {
            return packet.pair(part + destinationPortAt(protocol));
        }

        static boolean isSoundTcp(Bytes packet, int head) {
            int length = packet.length() - head;
            int offset = packet.octet(head + 12) >>> 4;
            return length >= 20 && offset >= 5 && 4 * offset <= length;
        }

        static boolean isSoundUdp(Bytes packet, int head) {
            int length = packet.length() - head;
            return length >= 8 && packet.pair(head + 4) == length;
        }

        static boolean isLongEnoughIcmp(Bytes packet, int head) {
            return packet.length() - head >= 8;
        }

        static boolean isError(Bytes packet) {
            int type = packet.octet(HEAD4);
            return packet.octet(9) == ICMP && (type == UNREACHABLE4 || type == EXCEEDED4);
        }

        /** What a packet's part means to the state of its session. */
        static int eventOf(Bytes packet, int head, int protocol) {
            if (protocol != TCP) {
                return PLAIN;
            }
            int bits = packet.octet(head + 13);
            if ((bits & 4) != 0) {
                return RST;
            }
            if ((bits & 2) != 0) {
                return SYN;
            }
            return (bits & 1) != 0 ? FIN : PLAIN;
        }
    }

    /** The prefix into which addresses of IPv4 are embedded; no bits while none is set. */
    private static final class Site {
        private long first;
        private long second;
        private int bits;
        /** How many of the embedded 32 bits stand behind byte 8, with a prefix of 32 to 64. */
        private int behindByte8;

        int bits() {
            return bits;
        }

        boolean isSet() {
            return bits != 0;
        }

        boolean settle(long high, long low, int length) {
            if (length == 96) {
                first = high;
                second = low & 0xFFFFFFFF00000000L;
            } else if (length >= 32 && length <= 64 && length % 8 == 0) {
                first = high & headMask(length);
                second = 0;
            } else {
                return false;
            }
            bits = length;
            behindByte8 = length - 32;
            return true;
        }

        long embedHigh(int address) {
            if (bits == 0 || bits == 96) {
                return first;
            }
            return first | (address & 0xFFFFFFFFL) >>> behindByte8;
        }

        long embedLow(int address) {
            long number = address & 0xFFFFFFFFL;
            if (bits == 0 || bits == 96) {
                return bits == 0 ? 0 : second | number;
            }
            return (number & tailMask(behindByte8)) << 56 - behindByte8;
        }

        /** The embedded address as a number that is not below 0; -1 if there is none. */
        long draw(long high, long low) {
            if (bits == 96) {
                boolean ours = high == first && (low & 0xFFFFFFFF00000000L) == second;
                return ours ? low & 0xFFFFFFFFL : -1;
            }
            long mask = headMask(bits);
            if (bits == 0 || (high & mask) != first || low >>> 56 != 0) {
                return -1;
            }
            long tail = low >>> 56 - behindByte8 & tailMask(behindByte8);
            return (high & ~mask) << behindByte8 | tail;
        }

        boolean covers(long high, long low) {
            return draw(high, low) >= 0;
        }

        private static long headMask(int length) {
            return -1L << 64 - length;
        }

        private static long tailMask(int many) {
            return (1L << many) - 1;
        }
    }

    /** The IPv4 addresses that are the gate's own. */
    private static final class Pool {
        private static final int MOST = 4;
        private final int[] rows;
        private int used;

        Pool() {
            rows = new int[MOST];
            used = 0;
        }

        static boolean isOdd(int address) {
            int first = address >>> 24;
            return first == 0 || first == 127 || first >= 224;
        }

        int size() {
            return used;
        }

        int at(int number) {
            return number >= 0 && number < used ? rows[number] : 0;
        }

        int numberOf(int address) {
            for (int i = 0; i < used; i++) {
                if (rows[i] == address) {
                    return i;
                }
            }
            return -1;
        }

        boolean has(int address) {
            return numberOf(address) >= 0;
        }

        int join(int address) {
            if (isOdd(address) || has(address)) {
                return -1;
            }
            if (used >= MOST) {
                return -2;
            }
            rows[used] = address;
            used++;
            return used - 1;
        }
    }

    /** An inner address and port of one protocol, and the outer ones that stand for them. */
    private static final class Binding {
        final int protocol;
        final long innerHigh;
        final long innerLow;
        final int innerPort;
        final int poolNumber;
        final int outerPort;

        Binding(Flow flow, long high, long low, int number, int port) {
            protocol = flow.protocol;
            innerHigh = high;
            innerLow = low;
            innerPort = flow.port;
            poolNumber = number;
            outerPort = port;
        }

        boolean isOf(long high, long low) {
            return innerHigh == high && innerLow == low;
        }
    }

    /** What one binding has with one far address and port. */
    private static final class Session {
        private static final int OPEN = 0;
        private static final int INNER_SYN = 1;
        private static final int OUTER_SYN = 2;
        private static final int BOTH = 3;
        private static final int OUTER_FIN = 4;
        private static final int INNER_FIN = 5;
        private static final int BOTH_FIN = 6;
        private static final int BROKEN = 7;
        private static final int UNTOUCHED = -1;

        final Binding owner;
        final int farAddress;
        final int farPort;
        int state;
        long end;

        Session(Binding binding, Flow flow, long time) {
            owner = binding;
            farAddress = flow.farAddress;
            farPort = flow.farPort;
            state = firstState(flow);
            end = time + lifetime(state, flow.protocol);
        }

        /** A packet of this session went by. */
        void meet(Flow flow, long time) {
            int next = stateAfter(flow.event, flow.isFromInside);
            if (next != UNTOUCHED) {
                state = next;
                end = time + lifetime(next, flow.protocol);
            }
        }

        private static int firstState(Flow flow) {
            if (flow.protocol != TCP) {
                return OPEN;
            }
            return flow.isFromInside ? INNER_SYN : OUTER_SYN;
        }

        /** The state to enter, be it the same one; UNTOUCHED if the end stays as well. */
        private int stateAfter(int event, boolean fromInside) {
            switch (state) {
                case OPEN:
                    return OPEN;
                case INNER_SYN:
                    if (event != SYN) {
                        return UNTOUCHED;
                    }
                    return fromInside ? INNER_SYN : BOTH;
                case OUTER_SYN:
                    return event == SYN && fromInside ? BOTH : UNTOUCHED;
                case BOTH:
                    if (event == FIN) {
                        return fromInside ? INNER_FIN : OUTER_FIN;
                    }
                    return event == RST ? BROKEN : BOTH;
                case OUTER_FIN:
                    return event == FIN && fromInside ? BOTH_FIN : OUTER_FIN;
                case INNER_FIN:
                    return event == FIN && !fromInside ? BOTH_FIN : INNER_FIN;
                case BROKEN:
                    return event == RST ? UNTOUCHED : BOTH;
                default:
                    return UNTOUCHED;
            }
        }

        private static int lifetime(int state, int protocol) {
            switch (state) {
                case OPEN:
                    return protocol == UDP ? 300 : 60;
                case OUTER_SYN:
                    return 6;
                case BOTH:
                case OUTER_FIN:
                case INNER_FIN:
                    return 7200;
                default:
                    return 240;
            }
        }
    }

    /** What the table must know of a packet: the gate's side of it by its port, and the far one. */
    private static final class Flow {
        final boolean isFromInside;
        final int protocol;
        final int port;
        final int farAddress;
        final int farPort;
        final int event;

        private Flow(boolean fromInside, int kind, int own, int address, int far, int means) {
            isFromInside = fromInside;
            protocol = kind;
            port = own;
            farAddress = address;
            farPort = kind == ICMP ? 0 : far;
            event = means;
        }

        static Flow fromInside(Bytes packet, int destination) {
            int next = packet.octet(6);
            int protocol = next == ICMP6 ? ICMP : next;
            int own = Part.sourcePort(packet, HEAD6, protocol);
            int far = Part.destinationPort(packet, HEAD6, protocol);
            int event = Part.eventOf(packet, HEAD6, protocol);
            return new Flow(true, protocol, own, destination, far, event);
        }

        static Flow fromOutside(Bytes packet) {
            int protocol = packet.octet(9);
            int own = Part.destinationPort(packet, HEAD4, protocol);
            int far = Part.sourcePort(packet, HEAD4, protocol);
            int event = Part.eventOf(packet, HEAD4, protocol);
            return new Flow(false, protocol, own, packet.quad(12), far, event);
        }

        boolean mayOpen() {
            return protocol != TCP || event == SYN;
        }
    }

    /** The bindings and sessions, each in the order in which they were made, and the time. */
    private static final class Table {
        private static final int MOST_BINDINGS = 64;
        private static final int MOST_SESSIONS = 128;
        private static final int FIRST_HIGH_PORT = 1024;

        private final ArrayList<Binding> bindings;
        private final ArrayList<Session> sessions;
        private long time;

        Table() {
            bindings = new ArrayList<Binding>();
            sessions = new ArrayList<Session>();
            time = 0;
        }

        long time() {
            return time;
        }

        int bindingCount() {
            return bindings.size();
        }

        int sessionCount() {
            return sessions.size();
        }

        Binding bindingAt(int i) {
            return i >= 0 && i < bindings.size() ? bindings.get(i) : null;
        }

        Session sessionAt(int i) {
            return i >= 0 && i < sessions.size() ? sessions.get(i) : null;
        }

        void forget() {
            sessions.clear();
            bindings.clear();
        }

        int numberOf(Binding wanted) {
            for (int i = 0; i < bindings.size(); i++) {
                if (bindings.get(i) == wanted) {
                    return i;
                }
            }
            return -1;
        }

        int sessionsOf(Binding owner) {
            int many = 0;
            for (int i = 0; i < sessions.size(); i++) {
                if (sessions.get(i).owner == owner) {
                    many++;
                }
            }
            return many;
        }

        /** Lets ticks go by: how many sessions end by that. */
        int pass(int ticks) {
            time += ticks;
            int before = sessions.size();
            for (int i = before - 1; i >= 0; i--) {
                if (sessions.get(i).end <= time) {
                    sessions.remove(i);
                }
            }
            int gone = before - sessions.size();
            if (gone > 0) {
                letIdleBindingsGo();
            }
            return gone;
        }

        private void letIdleBindingsGo() {
            for (int i = bindings.size() - 1; i >= 0; i--) {
                if (sessionsOf(bindings.get(i)) == 0) {
                    bindings.remove(i);
                }
            }
        }

        /** The binding of a packet from inside, with its session; null if it has no way in. */
        Binding admitFromInside(Flow flow, long high, long low, int poolSize) {
            Binding owner = byInner(flow, high, low);
            if (meetsSession(owner, flow)) {
                return owner;
            }
            boolean noRow = owner == null && bindings.size() >= MOST_BINDINGS;
            if (noRow || !mayAddSession(flow)) {
                return null;
            }
            if (owner == null) {
                owner = bind(flow, high, low, poolSize);
            }
            sessions.add(new Session(owner, flow, time));
            return owner;
        }

        /** The binding of a packet from outside, with its session; null if it has no way in. */
        Binding admitFromOutside(Flow flow, int poolNumber) {
            Binding owner = byOuter(flow.protocol, poolNumber, flow.port);
            if (owner == null || meetsSession(owner, flow)) {
                return owner;
            }
            if (!mayAddSession(flow)) {
                return null;
            }
            sessions.add(new Session(owner, flow, time));
            return owner;
        }

        Binding byOuter(int protocol, int poolNumber, int port) {
            for (int i = 0; i < bindings.size(); i++) {
                Binding each = bindings.get(i);
                boolean there = each.poolNumber == poolNumber && each.outerPort == port;
                if (there && each.protocol == protocol) {
                    return each;
                }
            }
            return null;
        }

        private Binding byInner(Flow flow, long high, long low) {
            for (int i = 0; i < bindings.size(); i++) {
                Binding each = bindings.get(i);
                boolean alike = each.protocol == flow.protocol && each.innerPort == flow.port;
                if (alike && each.isOf(high, low)) {
                    return each;
                }
            }
            return null;
        }

        /** Whether there is a session of the packet; if so its state goes on. */
        private boolean meetsSession(Binding owner, Flow flow) {
            for (int i = 0; i < sessions.size(); i++) {
                Session each = sessions.get(i);
                boolean far =
                        each.farAddress == flow.farAddress && each.farPort == flow.farPort;
                if (far && each.owner == owner) {
                    each.meet(flow, time);
                    return true;
                }
            }
            return false;
        }

        private boolean mayAddSession(Flow flow) {
            return flow.mayOpen() && sessions.size() < MOST_SESSIONS;
        }

        private Binding bind(Flow flow, long high, long low, int poolSize) {
            int number = numberFor(high, low, poolSize);
            int port = freePort(flow, number);
            Binding fresh = new Binding(flow, high, low, number, port);
            bindings.add(fresh);
            return fresh;
        }

        private int numberFor(long high, long low, int poolSize) {
            for (int i = 0; i < bindings.size(); i++) {
                if (bindings.get(i).isOf(high, low)) {
                    return bindings.get(i).poolNumber;
                }
            }
            int best = 0;
            for (int number = 1; number < poolSize; number++) {
                if (bindingsAt(number) < bindingsAt(best)) {
                    best = number;
                }
            }
            return best;
        }

        private int bindingsAt(int poolNumber) {
            int many = 0;
            for (int i = 0; i < bindings.size(); i++) {
                if (bindings.get(i).poolNumber == poolNumber) {
                    many++;
                }
            }
            return many;
        }

        /** Fewer bindings than tries are there, so that the last try at the latest is free. */
        private int freePort(Flow flow, int poolNumber) {
            int port = firstPort(flow);
            int step = flow.protocol == ICMP ? 1 : 2;
            for (int tries = 0; tries < MOST_BINDINGS; tries++) {
                if (byOuter(flow.protocol, poolNumber, port) == null) {
                    return port;
                }
                port += step;
            }
            return port;
        }

        private static int firstPort(Flow flow) {
            if (flow.protocol == ICMP) {
                return 0;
            }
            boolean even = flow.port % 2 == 0;
            if (flow.port < FIRST_HIGH_PORT) {
                return even ? 2 : 1;
            }
            return even ? FIRST_HIGH_PORT : FIRST_HIGH_PORT + 1;
        }
    }

    /** Why a packet is dropped, as far as its bytes and addresses tell; MADE if nothing does. */
    private static final class Rules {
        static int faultFromInside(Bytes packet, Site site, Pool pool) {
            if (!isFramedSix(packet)) {
                return SHORT;
            }
            if (!isKnownSix(packet)) {
                return KIND;
            }
            if (!Sums.partIsRight(packet, HEAD6)) {
                return SUM;
            }
            if (packet.octet(7) < 2) {
                return LATE;
            }
            return isPlacedSix(packet, site, pool) ? MADE : PLACE;
        }

        static int faultFromOutside(Bytes packet, Site site, Pool pool) {
            if (!isFramedFour(packet)) {
                return SHORT;
            }
            if (!Sums.headIsRight(packet)) {
                return SUM;
            }
            if (!isKnownFour(packet)) {
                return KIND;
            }
            if (!Sums.partIsRight(packet, HEAD4)) {
                return SUM;
            }
            if (packet.octet(8) < 2) {
                return LATE;
            }
            return isPlacedFour(packet, site, pool) ? MADE : PLACE;
        }

        private static boolean isFramedSix(Bytes packet) {
            int length = packet.length();
            return length >= HEAD6
                    && packet.octet(0) >>> 4 == 6
                    && packet.pair(4) == length - HEAD6;
        }

        private static boolean isKnownSix(Bytes packet) {
            switch (packet.octet(6)) {
                case TCP: return Part.isSoundTcp(packet, HEAD6);
                case UDP: return Part.isSoundUdp(packet, HEAD6);
                case ICMP6: return isEchoSix(packet);
                default: return false;
            }
        }

        private static boolean isEchoSix(Bytes packet) {
            int type = packet.octet(HEAD6);
            return Part.isLongEnoughIcmp(packet, HEAD6)
                    && (type == ECHO6 || type == ECHO_REPLY6);
        }

        private static boolean isPlacedSix(Bytes packet, Site site, Pool pool) {
            if (!site.isSet() || pool.size() == 0) {
                return false;
            }
            long target = site.draw(packet.eight(24), packet.eight(32));
            if (target < 0 || Pool.isOdd((int) target)) {
                return false;
            }
            return !site.covers(packet.eight(8), packet.eight(16));
        }

        private static boolean isFramedFour(Bytes packet) {
            int length = packet.length();
            return length >= HEAD4
                    && packet.octet(0) == FIVE_WORDS
                    && packet.pair(2) == length;
        }

        private static boolean isKnownFour(Bytes packet) {
            if ((packet.pair(6) & FRAGMENT_BITS) != 0) {
                return false;
            }
            switch (packet.octet(9)) {
                case TCP: return Part.isSoundTcp(packet, HEAD4);
                case UDP: return Part.isSoundUdp(packet, HEAD4);
                case ICMP: return isKnownIcmpFour(packet);
                default: return false;
            }
        }

        private static boolean isKnownIcmpFour(Bytes packet) {
            if (!Part.isLongEnoughIcmp(packet, HEAD4)) {
                return false;
            }
            int code = packet.octet(HEAD4 + 1);
            switch (packet.octet(HEAD4)) {
                case ECHO4:
                case ECHO_REPLY4:
                    return true;
                case UNREACHABLE4:
                    return code != 2 && code != 14 && code <= 15 && hasKnownWithin(packet);
                case EXCEEDED4:
                    return code <= 1 && hasKnownWithin(packet);
                default:
                    return false;
            }
        }

        private static boolean hasKnownWithin(Bytes packet) {
            boolean whole = packet.length() >= WITHIN4 + HEAD4 + 8;
            if (!whole || packet.octet(WITHIN4) != FIVE_WORDS) {
                return false;
            }
            int protocol = packet.octet(WITHIN4 + 9);
            if (protocol == ICMP) {
                return packet.octet(WITHIN4 + HEAD4) == ECHO4;
            }
            return Part.hasPorts(protocol);
        }

        private static boolean isPlacedFour(Bytes packet, Site site, Pool pool) {
            boolean through = site.isSet()
                    && pool.has(packet.quad(16))
                    && !Pool.isOdd(packet.quad(12));
            if (!through || !Part.isError(packet)) {
                return through;
            }
            return pool.has(packet.quad(WITHIN4 + 12))
                    && !Pool.isOdd(packet.quad(WITHIN4 + 16));
        }
    }

    /** Writes the packets that go out. */
    private static final class Maker {
        /** An identification of 0 stands for a packet that must not be cut. */
        static void toFour(Bytes in, Bytes out, Binding owner, int from, int to, int stamp) {
            int protocol = owner.protocol;
            int part = in.length() - HEAD6;
            out.resize(HEAD4 + part);
            out.put(0, FIVE_WORDS);
            out.put(1, in.pair(0) >>> 4);
            out.putPair(2, HEAD4 + part);
            out.putPair(4, stamp);
            out.putPair(6, stamp == 0 ? DONT_FRAGMENT : 0);
            out.put(8, in.octet(7) - 1);
            out.put(9, protocol);
            out.putQuad(12, from);
            out.putQuad(16, to);
            out.putPair(10, Sums.ofHead(out));
            out.copy(in, HEAD6, HEAD4, part);
            out.putPair(HEAD4 + Part.sourcePortAt(protocol), owner.outerPort);
            if (protocol == ICMP) {
                out.put(HEAD4, in.octet(HEAD6) == ECHO6 ? ECHO4 : ECHO_REPLY4);
            }
            Sums.putPart(out, HEAD4);
        }

        static void toSix(Bytes in, Bytes out, Binding owner, Site site) {
            int protocol = owner.protocol;
            int part = in.length() - HEAD4;
            out.resize(HEAD6 + part);
            putSixHead(out, 0, in.octet(1), part, protocol, in.octet(8) - 1);
            putEmbedded(out, 8, in.quad(12), site);
            putInner(out, 24, owner);
            out.copy(in, HEAD4, HEAD6, part);
            out.putPair(HEAD6 + Part.destinationPortAt(protocol), owner.innerPort);
            if (protocol == ICMP) {
                out.put(HEAD6, in.octet(HEAD4) == ECHO4 ? ECHO6 : ECHO_REPLY6);
            }
            Sums.putPart(out, HEAD6);
        }

        /** An error but for the packet within and the checksum over both. */
        static void errorToSix(Bytes in, Bytes out, Binding owner, Site site) {
            int whole = in.length() + 2 * (HEAD6 - HEAD4);
            out.resize(Math.min(whole, LEAST_MTU6));
            putSixHead(out, 0, in.octet(1), out.length() - HEAD6, ICMP, in.octet(8) - 1);
            putEmbedded(out, 8, in.quad(12), site);
            putInner(out, 24, owner);
            putErrorKind(in, out);
        }

        /** The packet within an error, cut where the error ends; its checksums stay. */
        static void withinToSix(Bytes in, Bytes out, Binding owner, Site site) {
            int protocol = owner.protocol;
            int payload = in.pair(WITHIN4 + 2) - HEAD4;
            int part = WITHIN6 + HEAD6;
            int traffic = in.octet(WITHIN4 + 1);
            putSixHead(out, WITHIN6, traffic, payload, protocol, in.octet(WITHIN4 + 8));
            putInner(out, WITHIN6 + 8, owner);
            putEmbedded(out, WITHIN6 + 24, in.quad(WITHIN4 + 16), site);
            out.copy(in, WITHIN4 + HEAD4, part, out.length() - part);
            out.putPair(part + Part.sourcePortAt(protocol), owner.innerPort);
            if (protocol == ICMP) {
                out.put(part, ECHO6);
            }
        }

        private static void putErrorKind(Bytes in, Bytes out) {
            int code = in.octet(HEAD4 + 1);
            if (in.octet(HEAD4) == EXCEEDED4) {
                out.putPair(HEAD6, 3 << 8 | code);
                out.putQuad(HEAD6 + 4, 0);
            } else if (code == 4) {
                out.putPair(HEAD6, 2 << 8);
                out.putQuad(HEAD6 + 4, Math.max(LEAST_MTU6, in.pair(HEAD4 + 6) + 20));
            } else {
                out.putPair(HEAD6, 1 << 8 | unreachableCode(code));
                out.putQuad(HEAD6 + 4, 0);
            }
        }

        private static int unreachableCode(int code) {
            switch (code) {
                case 3: return 4;
                case 9:
                case 10:
                case 13:
                case 15: return 1;
                default: return 0;
            }
        }

        private static void putSixHead(
                Bytes out, int at, int traffic, int payload, int protocol, int hops) {
            out.putPair(at, 0x6000 | traffic << 4);
            out.putPair(at + 2, 0);
            out.putPair(at + 4, payload);
            out.put(at + 6, protocol == ICMP ? ICMP6 : protocol);
            out.put(at + 7, hops);
        }

        private static void putEmbedded(Bytes out, int at, int address, Site site) {
            out.putEight(at, site.embedHigh(address));
            out.putEight(at + 8, site.embedLow(address));
        }

        private static void putInner(Bytes out, int at, Binding owner) {
            out.putEight(at, owner.innerHigh);
            out.putEight(at + 8, owner.innerLow);
        }
    }
}
