import java.util.Arrays;
import java.util.function.Consumer;

/**
 * The boundary cases of promise 9 and of the term A PACKET FROM OUTSIDE; above each test stands
 * the sentence that it holds to. A dropped packet changes the tape and its own count alone.
 */
public final class OutsideEdgeTest {
    private static final int SHORT = 10;
    private static final int KIND = 11;
    private static final int SUM = 12;
    private static final int TIME = 13;
    private static final int PLACE = 14;
    private static final int TABLE = 15;
    private static final int LEAST = Integer.MIN_VALUE;
    private static final int GREATEST = Integer.MAX_VALUE;
    private static final int FAR = Packets.FAR;
    private static final int POOL = Packets.POOL;

    public static void main(String[] args) {
        refusesOtherNumbers();
        takesNoBytes();
        takesTheFirstBytes();
        takesAllThereMayBe();
        fewerThanTwenty();
        versions();
        words();
        totalLengths();
        headerSums();
        fragments();
        protocols();
        tcpSizes();
        tcpOffsets();
        udpSizes();
        udpLengths();
        icmpSizes();
        icmpTypes();
        sumsOneBeside();
        udpZero();
        otherZeros();
        ttls();
        noPrefix();
        notOfThePool();
        oddSources();
        noBinding();
        tcpWithoutASession();
        noRoomForTheSession();
        roomForTheLast();
        theFirstThatFits();
        whatAMadeOneChanges();
        serviceAndHops();
        madeZero();
        madeOfOddLength();
        Check.end();
    }

    private static byte[] four(int protocol, byte[] part) {
        return Packets.four(FAR, POOL, protocol, part);
    }

    private static byte[] udp(byte... data) {
        return four(17, Packets.udp(53, 1024, data));
    }

    private static byte[] tcp(int flags) {
        return four(6, Packets.tcp(80, 1025, flags));
    }

    /** The packet with bytes of its header changed, and that signed anew. */
    private static byte[] head(byte[] packet, int at, int... values) {
        return Packets.headSigned(Packets.with(packet, at, values));
    }

    private static void dropped(
            String what, Consumer<TransitGate> scene, byte[] packet, int number) {
        Check.call(what, scene.andThen(gate -> Packets.load(gate, packet)),
                gate -> gate.outside(packet.length), -number,
                "tape", "count 4", "count " + number);
    }

    private static void dropped(String what, byte[] packet, int number) {
        dropped(what, Scenes::busy, packet, number);
    }

    private static void made(String what, Consumer<TransitGate> scene, byte[] packet) {
        TransitGate gate = new TransitGate();
        scene.accept(gate);
        int before = gate.count(7);
        Check.due(what, Packets.outside(gate, packet), packet.length + 20);
        Check.due(what + ": out", gate.count(5), packet.length + 20);
        Check.due(what + ": made", gate.count(7), before + 1);
        Check.due(what + ": tape", gate.count(4), 0);
    }

    private static void made(String what, byte[] packet) {
        made(what, Scenes::busy, packet);
    }

    /** Promise 9, "as inside()": "-1, and nothing happens, if n is not 0 .. how many bytes". */
    private static void refusesOtherNumbers() {
        Consumer<TransitGate> loaded = gate -> {
            Scenes.busy(gate);
            Packets.load(gate, udp());
        };
        int[] others = {LEAST, -40, -1, 41, 60, 1600, GREATEST};
        for (int n : others) {
            Check.call("outside " + n, loaded, gate -> gate.outside(n), -1);
            Check.call("outside " + n + " of none", Scenes::busy, gate -> gate.outside(n), -1);
        }
        Check.call("one of none", Scenes::fresh, gate -> gate.outside(1), -1);
        Check.call("one more than a taken tape", gate -> {
            Scenes.busy(gate);
            gate.take();
        }, gate -> gate.outside(61), -1);
    }

    /** Promise 9, "as inside()": no byte is a packet too, a SHORT one. */
    private static void takesNoBytes() {
        Check.call("none of none", Scenes::busy, gate -> gate.outside(0), -SHORT, "count 10");
        Check.call("none of some", Scenes::busyWithTape, gate -> gate.outside(0), -SHORT,
                "tape", "count 4", "count 10");
    }

    /** Promise 9, "as inside()": "The first n bytes of the TAPE, which is empty then". */
    private static void takesTheFirstBytes() {
        TransitGate gate = new TransitGate();
        Scenes.busy(gate);
        Packets.load(gate, udp());
        gate.bend(28, 0xFF);
        gate.bend(39, 0xFF);
        gate.feed(-1, -1, -1, -1, -1);
        Check.due("28 of 60", gate.outside(28), 48);
        Check.due("the tape is empty", gate.count(4), 0);
        byte[] exact = tcp(Packets.ACK);
        Check.due("all of a tape", exact.length, 40);
        made("40 of 40", exact);
        dropped("39 of 40", Arrays.copyOf(exact, 39), SHORT);
    }

    /** Terms: "The TAPE has up to 1600 bytes": all of it may be one packet. */
    private static void takesAllThereMayBe() {
        byte[] data = new byte[1572];
        Arrays.fill(data, (byte) 0xFF);
        made("1600 bytes", udp(data));
        made("1599 bytes", udp(Arrays.copyOf(data, 1571)));
    }

    /** Terms: "10 SHORT: fewer than 20 bytes". */
    private static void fewerThanTwenty() {
        byte[] whole = head(Arrays.copyOf(udp(), 20), 2, 0, 20);
        dropped("20 bytes", whole, KIND);
        dropped("19 bytes", Arrays.copyOf(head(whole, 2, 0, 19), 19), SHORT);
        dropped("1 byte", Arrays.copyOf(whole, 1), SHORT);
    }

    /** Terms: "version not 4". */
    private static void versions() {
        for (int version = 0; version < 16; version++) {
            byte[] packet = head(udp(), 0, version << 4 | 5);
            if (version == 4) {
                made("version 4", packet);
            } else {
                dropped("version " + version, packet, SHORT);
            }
        }
    }

    /** Terms: "not five words". */
    private static void words() {
        byte[] packet = udp(new byte[60]);
        for (int words = 0; words < 16; words++) {
            if (words == 5) {
                made("five words", packet);
            } else {
                dropped(words + " words", head(packet, 0, 0x40 | words), SHORT);
            }
        }
    }

    /** Terms: "total length not what there is". */
    private static void totalLengths() {
        made("total length 28", head(udp(), 2, 0, 28));
        int[][] others = {{0, 0}, {0, 8}, {0, 20}, {0, 27}, {0, 29}, {0, 40}, {1, 28}, {255, 255}};
        for (int[] length : others) {
            dropped("total length " + (length[0] << 8 | length[1]), head(udp(), 2, length), SHORT);
        }
        made("total length 300", udp(new byte[272]));
        dropped("total length 44 for 300", head(udp(new byte[272]), 2, 0, 44), SHORT);
    }

    private static int told(byte[] packet, int at) {
        return (packet[at] & 255) << 8 | packet[at + 1] & 255;
    }

    /** Terms: "12 SUM of the header not RIGHT". */
    private static void headerSums() {
        int right = told(udp(), 10);
        int[] wrong = {right - 1, right + 1, 0, 65535, right ^ 65535, right << 8 | right >> 8};
        for (int sum : wrong) {
            dropped("header sum", Packets.with(udp(), 10, sum >> 8, sum), SUM);
        }
        int[] places = {1, 4, 5, 8};
        for (int at : places) {
            dropped("header byte " + at, Packets.with(udp(), at, 0x33), SUM);
        }
        // The identification takes what the header's checksum lacks to 0.
        byte[] zero = head(udp(), 4, 0, 0);
        zero = head(zero, 4, told(zero, 10) >> 8, told(zero, 10));
        Check.due("a header sum of 0", told(zero, 10), 0);
        made("0 is right", zero);
        dropped("65535 is not", Packets.with(zero, 10, 255, 255), SUM);
    }

    /** Terms: "11 KIND: MF or an offset is set". */
    private static void fragments() {
        for (int bit = 0; bit < 16; bit++) {
            int flags = 1 << bit;
            byte[] packet = head(udp(), 6, flags >> 8, flags);
            if (bit >= 14) {
                made("flag bit " + bit, packet);
            } else {
                dropped("flag bit " + bit, packet, KIND);
            }
        }
        made("no flag", head(udp(), 6, 0, 0));
        made("both that are no matter", head(udp(), 6, 0xC0, 0));
        dropped("all", head(udp(), 6, 255, 255), KIND);
    }

    /** Terms: "protocol not 1, 6, 17". */
    private static void protocols() {
        byte[] part = Packets.with(Packets.tcp(80, 1025, Packets.SYN), 0, 0, 53, 4, 0, 0, 20);
        for (int protocol = 0; protocol < 256; protocol++) {
            TransitGate gate = new TransitGate();
            Scenes.busy(gate);
            int answer = Packets.outside(gate, four(protocol, part));
            boolean known = protocol == 1 || protocol == 6 || protocol == 17;
            Check.due("protocol " + protocol, answer == -KIND, !known);
            Check.due("its count", gate.count(KIND), known ? 0 : 1);
        }
        int[] beside = {0, 2, 5, 7, 16, 18, 58, 255};
        for (int protocol : beside) {
            dropped("protocol " + protocol, four(protocol, part), KIND);
        }
    }

    /** Terms: "TCP, UDP as above": TCP of "fewer than 20 bytes". */
    private static void tcpSizes() {
        byte[] part = Packets.tcp(80, 1025, Packets.ACK);
        made("TCP of 20", four(6, part));
        int[] fewer = {0, 1, 12, 13, 18, 19};
        for (int length : fewer) {
            dropped("TCP of " + length, four(6, Arrays.copyOf(part, length)), KIND);
        }
    }

    /** Terms: "TCP, UDP as above": "a data offset below 5 or beyond the end". */
    private static void tcpOffsets() {
        for (int offset = 0; offset < 16; offset++) {
            for (int end = 4 * offset - 1; end <= 4 * offset + 1; end++) {
                byte[] data = new byte[Math.max(0, end - 20)];
                byte[] part = Packets.with(Packets.tcp(80, 1025, Packets.ACK, data), 12,
                        offset << 4 | 15);
                String what = "offset " + offset + " of " + part.length;
                if (offset >= 5 && 4 * offset <= part.length) {
                    made(what, four(6, part));
                } else {
                    dropped(what, four(6, part), KIND);
                }
            }
        }
    }

    /** Terms: "TCP, UDP as above": UDP of "fewer than 8 bytes". */
    private static void udpSizes() {
        for (int length = 0; length < 8; length++) {
            byte[] part = Arrays.copyOf(Packets.udp(53, 1024), length);
            if (length >= 6) {
                part[5] = (byte) length;
            }
            dropped("UDP of " + length, four(17, part), KIND);
        }
        made("UDP of 8", udp());
        made("UDP of 9", udp((byte) 1));
    }

    /** Terms: "TCP, UDP as above": "a length that is not that of the part". */
    private static void udpLengths() {
        byte[] part = Packets.udp(53, 1024, new byte[4]);
        made("UDP length 12", four(17, Packets.with(part, 4, 0, 12)));
        int[][] others = {{0, 0}, {0, 8}, {0, 11}, {0, 13}, {1, 12}, {255, 255}, {0, 32}};
        for (int[] length : others) {
            dropped("UDP length " + (length[0] << 8 | length[1]),
                    four(17, Packets.with(part, 4, length)), KIND);
        }
    }

    /** Terms: "ICMP: fewer than 8 bytes". */
    private static void icmpSizes() {
        byte[] part = Packets.echo(0, 0);
        made("ICMP of 8", four(1, part));
        for (int length = 0; length < 8; length++) {
            dropped("ICMP of " + length, four(1, Arrays.copyOf(part, length)), KIND);
        }
    }

    /** Terms: "type not 0, 8, 3, 11". */
    private static void icmpTypes() {
        byte[] within = Packets.four(POOL, FAR, 17, Packets.udp(1024, 53));
        for (int type = 0; type < 256; type++) {
            byte[] part = Packets.error(type, 0, 0, within);
            // As an echo it has the identifier 0 of the binding.
            byte[] packet = four(1, Packets.with(part, 4, 0, 0));
            TransitGate gate = new TransitGate();
            Scenes.busy(gate);
            int want = type == 0 || type == 8 ? 76 : type == 3 || type == 11 ? 96 : -KIND;
            Check.due("type " + type, Packets.outside(gate, packet), want);
        }
        int[] beside = {1, 2, 4, 7, 9, 10, 12, 128, 129, 255};
        for (int type : beside) {
            dropped("type " + type, four(1, Packets.echo(type, 0)), KIND);
        }
        made("a code of an echo", four(1, Packets.with(Packets.echo(8, 0), 1, 255)));
    }

    private static int sumAt(int protocol) {
        return 20 + (protocol == 6 ? 16 : protocol == 17 ? 6 : 2);
    }

    private static byte[] partOf(int protocol, byte... data) {
        if (protocol == 6) {
            return Packets.tcp(80, 1025, Packets.ACK, data);
        }
        return protocol == 17 ? Packets.udp(53, 1024, data) : Packets.echo(0, 0, data);
    }

    /** Terms: "12 SUM of the part". */
    private static void sumsOneBeside() {
        int[] protocols = {1, 6, 17};
        for (int protocol : protocols) {
            byte[] packet = four(protocol, partOf(protocol, (byte) 7, (byte) 8, (byte) 9));
            int at = sumAt(protocol);
            int right = told(packet, at);
            made("sum of " + protocol, packet);
            int[] wrong = {right - 1, right + 1, right ^ 65535, 0, 65535, right << 8 | right >> 8};
            for (int sum : wrong) {
                dropped("sum of " + protocol, Packets.with(packet, at, sum >> 8, sum), SUM);
            }
            dropped("its last byte", Packets.with(packet, packet.length - 1, 8), SUM);
            byte[] elsewhere = head(packet, 12, 9, 9, 9, 9);
            if (protocol == 1) {
                made("ICMP has the part alone", elsewhere);
            } else {
                dropped("its source", elsewhere, SUM);
                dropped("its destination", head(packet, 16, 10, 0, 0, 2), SUM);
            }
        }
    }

    private static byte[] zeroSummed(int protocol) {
        byte[] packet = four(protocol, partOf(protocol, (byte) 0, (byte) 0));
        // What the checksum lacks to 0 goes into the last word.
        int word = told(packet, sumAt(protocol));
        return four(protocol, partOf(protocol, (byte) (word >> 8), (byte) word));
    }

    /** Terms: "(UDP: 0 is never RIGHT; 65535 is for 0)". */
    private static void udpZero() {
        byte[] packet = zeroSummed(17);
        Check.due("65535 stands", told(packet, 26), 65535);
        made("65535 for 0", packet);
        dropped("0 for 0", Packets.with(packet, 26, 0, 0), SUM);
        dropped("0 for another", Packets.with(udp(), 26, 0, 0), SUM);
        dropped("65535 for another", Packets.with(udp(), 26, 255, 255), SUM);
    }

    /** Terms: "A told one is RIGHT if it is what it must be": of TCP and ICMP 0 may be. */
    private static void otherZeros() {
        int[] protocols = {1, 6};
        for (int protocol : protocols) {
            byte[] packet = zeroSummed(protocol);
            int at = sumAt(protocol);
            Check.due("0 stands", told(packet, at), 0);
            made("0 of " + protocol, packet);
            dropped("65535 of " + protocol, Packets.with(packet, at, 255, 255), SUM);
        }
    }

    /** Terms: "13 TIME: TTL below 2". */
    private static void ttls() {
        dropped("TTL 0", head(udp(), 8, 0), TIME);
        dropped("TTL 1", head(udp(), 8, 1), TIME);
        int[] enough = {2, 127, 128, 255};
        for (int ttl : enough) {
            made("TTL " + ttl, head(udp(), 8, ttl));
        }
    }

    /** Terms: "14 PLACE: no PREFIX". */
    private static void noPrefix() {
        dropped("neither", Scenes::fresh, udp(), PLACE);
        dropped("no prefix", gate -> gate.pool(POOL), udp(), PLACE);
        dropped("a prefix refused", gate -> {
            gate.pool(POOL);
            gate.prefix(Packets.SITE, 0, 95);
        }, udp(), PLACE);
        dropped("both, no binding", Scenes::open, udp(), TABLE);
    }

    /** Terms: "the destination is not of THE POOL", be it empty or full. */
    private static void notOfThePool() {
        dropped("an empty pool", gate -> gate.prefix(Packets.SITE, 0, 96), udp(), PLACE);
        dropped("an empty pool, address 0", gate -> gate.prefix(Packets.SITE, 0, 96),
                Packets.four(FAR, 0, 17, Packets.udp(53, 1024)), PLACE);
        int[] beside = {POOL - 1, POOL + 2, POOL ^ 1 << 31, 0, FAR};
        for (int to : beside) {
            dropped("to another", Packets.four(FAR, to, 17, Packets.udp(53, 1024)), PLACE);
        }
        dropped("to one without a binding",
                Packets.four(FAR, POOL + 1, 17, Packets.udp(53, 1024)), TABLE);
        Consumer<TransitGate> full = gate -> {
            gate.prefix(Packets.SITE, 0, 96);
            for (int i = 0; i < 4; i++) {
                gate.pool(POOL + i);
                Scenes.udp(gate, 1 + i, 5000, FAR);
            }
            gate.pool(POOL + 4);
        };
        for (int i = 0; i < 4; i++) {
            made("to number " + i, full,
                    Packets.four(FAR, POOL + i, 17, Packets.udp(53, 1024)));
        }
        dropped("to one refused", full,
                Packets.four(FAR, POOL + 4, 17, Packets.udp(53, 1024)), PLACE);
    }

    /** Terms: "the source is ODD". */
    private static void oddSources() {
        int[] odd = {0, 0x00FFFFFF, 0x7F000000, 0x7FFFFFFF, 0xE0000000, 0xFFFFFFFF};
        for (int from : odd) {
            dropped("from " + Integer.toHexString(from),
                    Packets.four(from, POOL, 17, Packets.udp(53, 1024)), PLACE);
        }
        int[] others = {0x01000000, 0x7EFFFFFF, 0x80000000, 0xDFFFFFFF};
        for (int from : others) {
            made("from " + Integer.toHexString(from),
                    Packets.four(from, POOL, 17, Packets.udp(53, 1024)));
        }
    }

    /** Terms: "15 TABLE: no BINDING with that OUTER (destination and port)". */
    private static void noBinding() {
        int[] ports = {0, 1023, 1025, 1026, 5000, 65535};
        for (int port : ports) {
            dropped("UDP to " + port, four(17, Packets.udp(53, port)), TABLE);
        }
        dropped("TCP to the port of UDP", four(6, Packets.tcp(80, 1024, Packets.SYN)), TABLE);
        dropped("TCP to an inner port", four(6, Packets.tcp(80, 5001, Packets.SYN)), TABLE);
        dropped("identifier 1", four(1, Packets.echo(8, 1)), TABLE);
        dropped("an inner identifier", four(1, Packets.echo(8, 300)), TABLE);
        dropped("the source port is no matter", four(17, Packets.udp(1024, 53)), TABLE);
        dropped("none at all", Scenes::open, udp(), TABLE);
        made("UDP to 1024", udp());
        made("identifier 0", four(1, Packets.echo(8, 0)));
        made("the last of 64", Scenes::fullBindings, four(17, Packets.udp(53, 1087)));
        dropped("behind the last of 64", Scenes::fullBindings,
                four(17, Packets.udp(53, 1088)), TABLE);
    }

    /** Terms: "TCP without a SESSION, and no SYN". */
    private static void tcpWithoutASession() {
        for (int flags = 0; flags < 64; flags++) {
            byte[] elsewhere = Packets.four(FAR + 1, POOL, 6, Packets.tcp(80, 1025, flags));
            byte[] farther = four(6, Packets.tcp(81, 1025, flags));
            boolean opens = (flags & Packets.SYN) != 0 && (flags & Packets.RST) == 0;
            if (opens) {
                made("flags " + flags, elsewhere);
                made("flags from another port " + flags, farther);
            } else {
                dropped("flags " + flags, elsewhere, TABLE);
                dropped("flags from another port " + flags, farther, TABLE);
            }
            made("flags of a session " + flags, tcp(flags));
        }
    }

    /** Terms: "SESSIONS (128 at most)", "no room for the SESSION". */
    private static void noRoomForTheSession() {
        dropped("another far address", Scenes::fullSessions,
                Packets.four(FAR + 128, POOL, 17, Packets.udp(53, 1024)), TABLE);
        dropped("another far port", Scenes::fullSessions,
                four(17, Packets.udp(54, 1024)), TABLE);
        made("one that is there", Scenes::fullSessions,
                Packets.four(FAR + 127, POOL, 17, Packets.udp(53, 1024)));
        made("the first of them", Scenes::fullSessions, udp());
    }

    /** Terms: "SESSIONS (128 at most)": the last one comes. */
    private static void roomForTheLast() {
        Consumer<TransitGate> nearly = gate -> Scenes.sessions(gate, 127);
        made("the 128th session", nearly,
                Packets.four(FAR + 127, POOL, 17, Packets.udp(53, 1024)));
        TransitGate gate = new TransitGate();
        nearly.accept(gate);
        Scenes.udpBack(gate, FAR + 127, 1024);
        Check.due("128 sessions", gate.count(1), 128);
        Check.due("all of the first binding", gate.binding(0, 4), 128);
    }

    /** Terms: "likewise", with the first number that fits; here 12 of the header is before 11. */
    private static void theFirstThatFits() {
        byte[] part = Packets.with(Packets.tcp(80, 9, Packets.ACK), 12, 0x40);
        byte[] all = Packets.four(0, 9, 0, 0, 0x2000, 1, 6, part);
        dropped("10 before 12", Packets.with(all, 0, 0x46), SHORT);
        dropped("12 of the header before 11", Packets.with(all, 5, 0x77), SUM);
        dropped("11 before 12 of the part", Packets.with(all, 25, 0x77), KIND);
        byte[] whole = Packets.four(0, 9, 0, 0, 0x2000, 1, 6, Packets.tcp(80, 9, Packets.ACK));
        dropped("11 by its fragment", Packets.with(whole, 25, 0x77), KIND);
        byte[] known = Packets.four(0, 9, 0, 0, 0, 1, 6, Packets.tcp(80, 9, Packets.ACK));
        dropped("12 of the part before 13", Packets.with(known, 25, 0x77), SUM);
        dropped("13 before 14", known, TIME);
        dropped("14 before 15", head(known, 8, 2), PLACE);
        dropped("15", four(6, Packets.tcp(80, 9, Packets.ACK)), TABLE);
    }

    /** Promise 9, "as inside()": "how many bytes OUT has"; what is not named stays. */
    private static void whatAMadeOneChanges() {
        byte[] again = udp();
        Check.call("of a session", gate -> {
            Scenes.busy(gate);
            Packets.load(gate, again);
        }, gate -> gate.outside(again.length), 48,
                "tape", "out", "count 4", "count 5", "count 7", "session 0 4");
        byte[] farther = four(17, Packets.udp(54, 1024));
        Check.call("a new session", gate -> {
            Scenes.busy(gate);
            Packets.load(gate, farther);
        }, gate -> gate.outside(farther.length), 48,
                "tape", "out", "count 4", "count 5", "count 7", "count 1", "binding 0 4",
                "session 3");
    }

    /** Terms: "the type of service, flow label 0", "hop limit 1 less than TTL". */
    private static void serviceAndHops() {
        int[] services = {0, 1, 15, 16, 128, 240, 255};
        int[] ttls = {2, 3, 128, 129, 255};
        for (int service : services) {
            for (int ttl : ttls) {
                TransitGate gate = new TransitGate();
                Scenes.busy(gate);
                byte[] part = Packets.udp(53, 1024);
                Packets.outside(gate, Packets.four(FAR, POOL, service, 65535, 0xC000, ttl, 17,
                        part));
                byte[] want = Packets.six(Packets.SITE, FAR, Packets.HOME, 1, service, ttl - 1, 17,
                        Packets.udp(53, 5000));
                Check.same("service " + service + ", TTL " + ttl, Packets.out(gate), want);
            }
        }
    }

    /** The part that a packet to the first bindings has inside, with a last word. */
    private static byte[] innerPart(int protocol, int word) {
        byte[] data = {(byte) (word >> 8), (byte) word};
        if (protocol == 6) {
            return Packets.tcp(80, 5001, Packets.ACK, data);
        }
        return protocol == 17 ? Packets.udp(53, 5000, data) : Packets.echo(129, 300, data);
    }

    /** Terms: "Where a made UDP one is 0, 65535 stands": of TCP and ICMPv6 0 does. */
    private static void madeZero() {
        int[] protocols = {1, 6, 17};
        for (int protocol : protocols) {
            int next = protocol == 1 ? 58 : protocol;
            byte[] nothing = Packets.six(Packets.SITE, FAR, Packets.HOME, 1, 0, 63, next,
                    innerPart(protocol, 0));
            int at = sumAt(protocol) + 20;
            int word = told(nothing, at);
            TransitGate gate = new TransitGate();
            Scenes.busy(gate);
            Packets.outside(gate, four(protocol, partOf(protocol, (byte) (word >> 8),
                    (byte) word)));
            byte[] out = Packets.out(gate);
            Check.due("made sum of " + protocol, told(out, at), protocol == 17 ? 65535 : 0);
            Check.due("its data", told(out, out.length - 2), word);
        }
    }

    /** Terms: "(a last single byte is a word's higher one)", in a packet that is made. */
    private static void madeOfOddLength() {
        for (int many = 0; many < 4; many++) {
            byte[] data = new byte[many];
            Arrays.fill(data, (byte) 0xA7);
            TransitGate gate = new TransitGate();
            Scenes.busy(gate);
            Packets.outside(gate, udp(data));
            byte[] want = Packets.six(Packets.SITE, FAR, Packets.HOME, 1, 0x2e, 63, 17,
                    Packets.udp(53, 5000, data));
            Check.same("made of " + many, Packets.out(gate), want);
        }
    }
}
