import java.util.Arrays;
import java.util.function.Consumer;

/**
 * The boundary cases of promise 8 and of the term A PACKET FROM INSIDE; above each test stands the
 * sentence that it holds to. A dropped packet changes the tape and its own count, nothing else.
 */
public final class InsideEdgeTest {
    private static final int SHORT = 10;
    private static final int KIND = 11;
    private static final int SUM = 12;
    private static final int TIME = 13;
    private static final int PLACE = 14;
    private static final int TABLE = 15;
    private static final int LEAST = Integer.MIN_VALUE;
    private static final int GREATEST = Integer.MAX_VALUE;
    private static final int FAR = Packets.FAR;
    private static final int POOL = Packets.POOL;
    private static final long HOME = Packets.HOME;
    private static final long SITE = Packets.SITE;

    public static void main(String[] args) {
        refusesOtherNumbers();
        takesNoBytes();
        takesTheFirstBytes();
        takesAllThereMayBe();
        fewerThanForty();
        versions();
        payloadLengths();
        nextHeaders();
        tcpSizes();
        tcpOffsets();
        udpSizes();
        udpLengths();
        icmpSizes();
        icmpTypes();
        sumsOneBeside();
        udpZeroIsNeverRight();
        udpFullIsForZero();
        otherZeros();
        hopLimits();
        noPrefixOrPool();
        destinationsBesideThePrefix();
        oddDestinations();
        sourcesOfThePrefix();
        tcpWithoutASession();
        noRoomForTheBinding();
        noRoomForTheSession();
        noRoomForEither();
        roomForTheLast();
        theFirstThatFits();
        whatAMadeOneChanges();
        identificationAndLength();
        identificationOfDrops();
        trafficAndTtl();
        madeUdpZero();
        madeOfOddLength();
        Check.end();
    }

    private static byte[] six(int next, byte[] part) {
        return Packets.six(1, FAR, next, part);
    }

    private static byte[] udp(byte... data) {
        return six(Packets.UDP, Packets.udp(5000, 53, data));
    }

    private static byte[] tcp(int flags, byte... data) {
        return six(Packets.TCP, Packets.tcp(5001, 80, flags, data));
    }

    private static byte[] echo(int type) {
        return six(Packets.ICMP6, Packets.echo(type, 300));
    }

    private static byte[] between(long fromHigh, long fromLow, long toHigh, long toLow) {
        byte[] part = Packets.udp(5000, 53);
        return Packets.six(fromHigh, fromLow, toHigh, toLow, 0, 64, 17, part);
    }

    private static void dropped(
            String what, Consumer<TransitGate> scene, byte[] packet, int number) {
        Check.call(what, scene.andThen(gate -> Packets.load(gate, packet)),
                gate -> gate.inside(packet.length), -number, "tape", "count 4", "count " + number);
    }

    private static void dropped(String what, byte[] packet, int number) {
        dropped(what, Scenes::busy, packet, number);
    }

    private static void made(String what, Consumer<TransitGate> scene, byte[] packet) {
        TransitGate gate = new TransitGate();
        scene.accept(gate);
        int before = gate.count(7);
        Check.due(what, Packets.inside(gate, packet), packet.length - 20);
        Check.due(what + ": out", gate.count(5), packet.length - 20);
        Check.due(what + ": made", gate.count(7), before + 1);
        Check.due(what + ": tape", gate.count(4), 0);
    }

    private static void made(String what, byte[] packet) {
        made(what, Scenes::busy, packet);
    }

    /** Promise 8: "-1, and nothing happens, if n is not 0 .. how many bytes the TAPE has." */
    private static void refusesOtherNumbers() {
        Consumer<TransitGate> loaded = gate -> {
            Scenes.busy(gate);
            Packets.load(gate, udp());
        };
        int[] others = {LEAST, -60, -2, -1, 61, 80, 1600, GREATEST};
        for (int n : others) {
            Check.call("inside " + n, loaded, gate -> gate.inside(n), -1);
            Check.call("inside " + n + " of none", Scenes::busy, gate -> gate.inside(n), -1);
        }
        Check.call("one of none", Scenes::fresh, gate -> gate.inside(1), -1);
        Check.call("one more than a taken tape", gate -> {
            Scenes.busy(gate);
            gate.take();
        }, gate -> gate.inside(61), -1);
    }

    /** Promise 8: "0 .. how many bytes the TAPE has": no byte is a packet too, a SHORT one. */
    private static void takesNoBytes() {
        Check.call("none of none", Scenes::busy, gate -> gate.inside(0), -SHORT, "count 10");
        Check.call("none of some", Scenes::busyWithTape, gate -> gate.inside(0), -SHORT,
                "tape", "count 4", "count 10");
    }

    /** Promise 8: "The first n bytes of the TAPE, which is empty then". */
    private static void takesTheFirstBytes() {
        TransitGate gate = new TransitGate();
        Scenes.busy(gate);
        Packets.load(gate, udp());
        gate.bend(48, 0xFF);
        gate.bend(59, 0xFF);
        gate.feed(-1, -1, -1, -1, -1);
        Check.due("48 of 80", gate.inside(48), 28);
        Check.due("the tape is empty", gate.count(4), 0);
        byte[] exact = tcp(Packets.ACK);
        Check.due("all of a tape", exact.length, 60);
        made("60 of 60", exact);
        dropped("59 of 60", Arrays.copyOf(exact, 59), SHORT);
    }

    /** Terms: "The TAPE has up to 1600 bytes": all of it may be one packet. */
    private static void takesAllThereMayBe() {
        byte[] data = new byte[1552];
        Arrays.fill(data, (byte) 0xFF);
        made("1600 bytes", udp(data));
        made("1599 bytes", udp(Arrays.copyOf(data, 1551)));
    }

    /** Terms: "10 SHORT: fewer than 40 bytes". */
    private static void fewerThanForty() {
        byte[] head = Packets.with(Arrays.copyOf(udp(), 40), 4, 0, 0);
        dropped("40 bytes", head, KIND);
        dropped("39 bytes", Arrays.copyOf(head, 39), SHORT);
        dropped("1 byte", Arrays.copyOf(head, 1), SHORT);
        // One byte too few must not pass for a payload of -1 bytes.
        dropped("39 bytes, length -1", Packets.with(Arrays.copyOf(head, 39), 4, 255, 255), SHORT);
    }

    /** Terms: "its version is not 6". */
    private static void versions() {
        for (int version = 0; version < 16; version++) {
            byte[] packet = Packets.with(udp(), 0, version << 4 | 1);
            if (version == 6) {
                made("version 6", packet);
            } else {
                dropped("version " + version, packet, SHORT);
            }
        }
    }

    /** Terms: "its payload length is not what is behind the 40 bytes". */
    private static void payloadLengths() {
        made("payload length 8", Packets.with(udp(), 4, 0, 8));
        dropped("payload length 7", Packets.with(udp(), 4, 0, 7), SHORT);
        dropped("payload length 9", Packets.with(udp(), 4, 0, 9), SHORT);
        dropped("payload length 0", Packets.with(udp(), 4, 0, 0), SHORT);
        dropped("payload length 264", Packets.with(udp(), 4, 1, 8), SHORT);
        dropped("payload length 65535", Packets.with(udp(), 4, 255, 255), SHORT);
        dropped("payload length 48", Packets.with(udp(), 4, 0, 48), SHORT);
        byte[] data = new byte[300];
        made("payload length 308", udp(data));
        dropped("payload length 52 for 308", Packets.with(udp(data), 4, 0, 52), SHORT);
    }

    /** Terms: "11 KIND: next header not 6, 17, 58". */
    private static void nextHeaders() {
        byte[] part = Packets.tcp(5001, 80, Packets.SYN);
        part[0] = (byte) 128;
        part[4] = 0;
        part[5] = 20;
        for (int next = 0; next < 256; next++) {
            byte[] packet = six(next, part);
            if (next == 6 || next == 17 || next == 58) {
                made("next header " + next, packet);
            } else {
                TransitGate gate = Packets.gate();
                Check.due("next header " + next, Packets.inside(gate, packet), -KIND);
                Check.due("its count", gate.count(KIND), 1);
            }
        }
        int[] beside = {0, 1, 5, 7, 16, 18, 57, 59, 255};
        for (int next : beside) {
            dropped("next header " + next, six(next, part), KIND);
        }
    }

    /** Terms: "TCP: fewer than 20 bytes". */
    private static void tcpSizes() {
        byte[] part = Packets.tcp(5001, 80, Packets.ACK);
        made("TCP of 20", six(6, part));
        int[] fewer = {0, 1, 12, 13, 14, 16, 18, 19};
        for (int length : fewer) {
            dropped("TCP of " + length, six(6, Arrays.copyOf(part, length)), KIND);
        }
        // Bytes of an earlier, longer packet must not count for one that is cut.
        dropped("TCP of 12 behind a longer one", gate -> {
            Scenes.busy(gate);
            Packets.inside(gate, tcp(Packets.ACK));
        }, six(6, Arrays.copyOf(part, 12)), KIND);
    }

    /** Terms: "a data offset below 5 or beyond the end". */
    private static void tcpOffsets() {
        for (int offset = 0; offset < 16; offset++) {
            for (int end = 4 * offset - 1; end <= 4 * offset + 1; end++) {
                byte[] data = new byte[Math.max(0, end - 20)];
                byte[] part = Packets.with(Packets.tcp(5001, 80, Packets.ACK, data), 12,
                        offset << 4 | 15);
                String what = "offset " + offset + " of " + part.length;
                if (offset >= 5 && 4 * offset <= part.length) {
                    made(what, six(6, part));
                } else {
                    dropped(what, six(6, part), KIND);
                }
            }
        }
    }

    /** Terms: "UDP: fewer than 8 bytes". */
    private static void udpSizes() {
        for (int length = 0; length < 8; length++) {
            byte[] part = Arrays.copyOf(Packets.udp(5000, 53), length);
            if (length >= 6) {
                part[5] = (byte) length;
            }
            dropped("UDP of " + length, six(17, part), KIND);
        }
        made("UDP of 8", udp());
        made("UDP of 9", udp((byte) 1));
    }

    /** Terms: "a length that is not that of the part". */
    private static void udpLengths() {
        byte[] part = Packets.udp(5000, 53, new byte[4]);
        made("UDP length 12", six(17, Packets.with(part, 4, 0, 12)));
        int[][] others = {{0, 0}, {0, 8}, {0, 11}, {0, 13}, {1, 12}, {255, 255}, {0, 52}};
        for (int[] length : others) {
            dropped("UDP length " + (length[0] << 8 | length[1]),
                    six(17, Packets.with(part, 4, length)), KIND);
        }
    }

    /** Terms: "ICMPv6: fewer than 8 bytes". */
    private static void icmpSizes() {
        byte[] part = Packets.echo(128, 300);
        made("ICMPv6 of 8", six(58, part));
        for (int length = 0; length < 8; length++) {
            dropped("ICMPv6 of " + length, six(58, Arrays.copyOf(part, length)), KIND);
        }
    }

    /** Terms: "type not 128 or 129". */
    private static void icmpTypes() {
        for (int type = 0; type < 256; type++) {
            if (type == 128 || type == 129) {
                made("type " + type, echo(type));
            } else {
                TransitGate gate = Packets.gate();
                Check.due("type " + type, Packets.inside(gate, echo(type)), -KIND);
            }
        }
        dropped("type 127", echo(127), KIND);
        dropped("type 130", echo(130), KIND);
        for (int code = 1; code < 256; code += 127) {
            made("code " + code, six(58, Packets.with(Packets.echo(128, 300), 1, code)));
        }
    }

    private static int sumAt(int next) {
        return 40 + (next == 6 ? 16 : next == 17 ? 6 : 2);
    }

    private static int told(byte[] packet, int at) {
        return (packet[at] & 255) << 8 | packet[at + 1] & 255;
    }

    private static byte[] partOf(int next, byte... data) {
        if (next == 6) {
            return Packets.tcp(5001, 80, Packets.ACK, data);
        }
        return next == 17 ? Packets.udp(5000, 53, data) : Packets.echo(128, 300, data);
    }

    /** Terms: "12 SUM: the checksum is not RIGHT", by one more, one less, or any one bit. */
    private static void sumsOneBeside() {
        int[] nexts = {6, 17, 58};
        for (int next : nexts) {
            byte[] packet = six(next, partOf(next, (byte) 7, (byte) 8, (byte) 9));
            int at = sumAt(next);
            int right = told(packet, at);
            made("sum of " + next, packet);
            int[] wrong = {right - 1, right + 1, right ^ 65535, 0, 65535, right << 8 | right >> 8};
            for (int sum : wrong) {
                dropped("sum of " + next, Packets.with(packet, at, sum >> 8, sum), SUM);
            }
            dropped("its last byte", Packets.with(packet, packet.length - 1, 8), SUM);
            dropped("its source", Packets.with(packet, 23, 2), SUM);
            dropped("its destination", Packets.with(packet, 39, 9), SUM);
            made("its flow label", Packets.with(packet, 1, 0xFF, 0xFF, 0xFF));
        }
    }

    /** A packet whose words add up to 65535 without the checksum, which is 0 then. */
    private static byte[] zeroSummed(int next) {
        byte[] packet = six(next, partOf(next, (byte) 0, (byte) 0));
        // What the checksum lacks to 0 goes into the last word.
        int word = told(packet, sumAt(next));
        return six(next, partOf(next, (byte) (word >> 8), (byte) word));
    }

    /** Terms: "(UDP: 0 is never RIGHT". */
    private static void udpZeroIsNeverRight() {
        byte[] packet = zeroSummed(17);
        Check.due("65535 stands", told(packet, 46), 65535);
        dropped("0 for 0", Packets.with(packet, 46, 0, 0), SUM);
        dropped("0 for another", Packets.with(udp(), 46, 0, 0), SUM);
    }

    /** Terms: "65535 is for 0)". */
    private static void udpFullIsForZero() {
        made("65535 for 0", zeroSummed(17));
        dropped("65535 for another", Packets.with(udp(), 46, 255, 255), SUM);
    }

    /** Terms: "A told one is RIGHT if it is what it must be": of TCP and ICMPv6 0 may be. */
    private static void otherZeros() {
        int[] nexts = {6, 58};
        for (int next : nexts) {
            byte[] packet = zeroSummed(next);
            int at = sumAt(next);
            Check.due("0 stands", told(packet, at), 0);
            made("0 of " + next, packet);
            dropped("65535 of " + next, Packets.with(packet, at, 255, 255), SUM);
        }
    }

    /** Terms: "13 TIME: hop limit below 2". */
    private static void hopLimits() {
        dropped("hop limit 0", Packets.with(udp(), 7, 0), TIME);
        dropped("hop limit 1", Packets.with(udp(), 7, 1), TIME);
        int[] enough = {2, 127, 128, 255};
        for (int hops : enough) {
            made("hop limit " + hops, Packets.with(udp(), 7, hops));
        }
    }

    /** Terms: "14 PLACE: no PREFIX or no POOL". */
    private static void noPrefixOrPool() {
        dropped("neither", Scenes::fresh, udp(), PLACE);
        dropped("no prefix", gate -> gate.pool(POOL), udp(), PLACE);
        dropped("no pool", gate -> gate.prefix(SITE, 0, 96), udp(), PLACE);
        made("both", Scenes::open, udp());
        // Without a prefix even what looks like one of 0 bits has no place.
        dropped("no prefix, address 0", gate -> gate.pool(POOL),
                between(HOME, 1, 0, 0x08080808), PLACE);
    }

    /** Terms: "the destination is not OF THE PREFIX". */
    private static void destinationsBesideThePrefix() {
        made("of it", between(HOME, 1, SITE, 0x08080808));
        dropped("bit 0", between(HOME, 1, SITE ^ 1L << 63, 0x08080808), PLACE);
        dropped("bit 63", between(HOME, 1, SITE ^ 1, 0x08080808), PLACE);
        dropped("bit 64", between(HOME, 1, SITE, 1L << 63 | 0x08080808), PLACE);
        dropped("bit 95", between(HOME, 1, SITE, 1L << 32 | 0x08080808), PLACE);
        made("bit 96", between(HOME, 1, SITE, 1L << 31 | 0x08080808));
        Consumer<TransitGate> brief = gate -> {
            gate.prefix(SITE, 0, 64);
            gate.pool(POOL);
        };
        made("of 64 bits, behind", brief, between(HOME, 1, SITE, 0x0008080808FFFFFFL));
        dropped("of 64 bits, byte 8", brief, between(HOME, 1, SITE, 0x0108080808000000L), PLACE);
        dropped("of 64 bits, bit 63", brief, between(HOME, 1, SITE ^ 1, 0x0008080808000000L),
                PLACE);
    }

    /** Terms: "or is of an ODD address". */
    private static void oddDestinations() {
        long[] odd = {0, 1, 0x00FFFFFFL, 0x7F000000L, 0x7FFFFFFFL, 0xE0000000L, 0xFFFFFFFFL};
        for (long address : odd) {
            dropped("to " + Long.toHexString(address), between(HOME, 1, SITE, address), PLACE);
        }
        long[] others = {0x01000000L, 0x7EFFFFFFL, 0x80000000L, 0xDFFFFFFFL};
        for (long address : others) {
            made("to " + Long.toHexString(address), between(HOME, 1, SITE, address));
        }
    }

    /** Terms: "the source is OF THE PREFIX". */
    private static void sourcesOfThePrefix() {
        dropped("from its least", between(SITE, 0, SITE, 0x08080808), PLACE);
        dropped("from its greatest", between(SITE, 0xFFFFFFFFL, SITE, 0x08080808), PLACE);
        made("from behind it", between(SITE, 0x100000000L, SITE, 0x08080808));
        made("from before it", between(SITE - 1, -1, SITE, 0x08080808));
        made("from nowhere", between(0, 0, SITE, 0x08080808));
        Consumer<TransitGate> brief = gate -> {
            gate.prefix(HOME, 0, 32);
            gate.pool(POOL);
        };
        dropped("of 32 bits", brief, between(HOME, 1, HOME | 0x08080808, 0), PLACE);
        made("of 32 bits, byte 8", brief, between(HOME, 1L << 56, HOME | 0x08080808, 0));
        made("of 32 bits, bit 31", brief, between(HOME ^ 1L << 32, 1, HOME | 0x08080808, 0));
    }

    /** Terms: "15 TABLE: TCP without a SESSION, and no SYN". */
    private static void tcpWithoutASession() {
        for (int flags = 0; flags < 64; flags++) {
            byte[] unknown = Packets.six(2, FAR, 6, Packets.tcp(5001, 80, flags));
            byte[] farther = Packets.six(1, FAR, 6, Packets.tcp(5001, 81, flags));
            boolean opens = (flags & Packets.SYN) != 0 && (flags & Packets.RST) == 0;
            if (opens) {
                made("flags " + flags, unknown);
                made("flags to another port " + flags, farther);
            } else {
                dropped("flags " + flags, unknown, TABLE);
                dropped("flags to another port " + flags, farther, TABLE);
            }
            made("flags of a session " + flags, tcp(flags));
        }
        byte[] elsewhere = Packets.six(1, FAR + 1, 6, Packets.tcp(5001, 80, Packets.ACK));
        dropped("to another address", elsewhere, TABLE);
    }

    /** Terms: "BINDINGS (64 at most)", "no room for the BINDING .. it needs (nothing is made". */
    private static void noRoomForTheBinding() {
        dropped("another port", Scenes::fullBindings,
                six(17, Packets.udp(5064, 53)), TABLE);
        dropped("another host", Scenes::fullBindings,
                Packets.six(2, FAR, 17, Packets.udp(5000, 53)), TABLE);
        dropped("another protocol", Scenes::fullBindings,
                six(6, Packets.tcp(5000, 80, Packets.SYN)), TABLE);
        dropped("ICMP", Scenes::fullBindings, six(58, Packets.echo(128, 5000)), TABLE);
        made("one that is there", Scenes::fullBindings, udp());
        made("another session of it", Scenes::fullBindings,
                Packets.six(1, FAR + 1, 17, Packets.udp(5063, 53)));
    }

    /** Terms: "SESSIONS (128 at most)", "no room for the .. SESSION it needs". */
    private static void noRoomForTheSession() {
        dropped("another far address", Scenes::fullSessions,
                Packets.six(1, FAR - 1, 17, Packets.udp(5000, 53)), TABLE);
        dropped("another far port", Scenes::fullSessions,
                six(17, Packets.udp(5000, 54)), TABLE);
        made("one that is there", Scenes::fullSessions,
                Packets.six(1, FAR + 127, 17, Packets.udp(5000, 53)));
    }

    /** Terms: "(nothing is made then)": a binding has room, but its session has none. */
    private static void noRoomForEither() {
        dropped("another port", Scenes::fullSessions, six(17, Packets.udp(5001, 53)), TABLE);
        dropped("a SYN", Scenes::fullSessions, six(6, Packets.tcp(5000, 80, Packets.SYN)), TABLE);
        dropped("ICMP", Scenes::fullSessions, six(58, Packets.echo(129, 5000)), TABLE);
    }

    /** Terms: "BINDINGS (64 at most)", "SESSIONS (128 at most)": the last ones come. */
    private static void roomForTheLast() {
        Consumer<TransitGate> almost = gate -> Scenes.bindings(gate, 63);
        made("the 64th binding", almost, six(17, Packets.udp(5063, 53)));
        made("the 64th binding, TCP", almost, six(6, Packets.tcp(5000, 80, Packets.SYN)));
        Consumer<TransitGate> nearly = gate -> Scenes.sessions(gate, 127);
        made("the 128th session", nearly, Packets.six(1, FAR + 200, 17, Packets.udp(5000, 53)));
        made("the 128th session, a binding", nearly, six(58, Packets.echo(128, 9)));
    }

    /** Terms: "DROPPED, with the first number that fits". */
    private static void theFirstThatFits() {
        byte[] part = Packets.tcp(5009, 80, Packets.ACK);
        byte[] all = Packets.six(SITE, 1, HOME, 1, 0, 1, 6, part);
        byte[] offset = Packets.with(all, 52, 0x40);
        dropped("10 before 11", Packets.with(offset, 0, 0x50), SHORT);
        dropped("11 before 12", Packets.with(offset, 57, 0x77), KIND);
        dropped("12 before 13", Packets.with(all, 57, 0x77), SUM);
        dropped("13 before 14", all, TIME);
        dropped("14 before 15", Packets.with(all, 7, 2), PLACE);
        dropped("15", Packets.six(1, FAR, 6, part), TABLE);
    }

    /** Promise 8: "how many bytes OUT has"; what is not named stays. */
    private static void whatAMadeOneChanges() {
        byte[] again = udp();
        Check.call("of a session", gate -> {
            Scenes.busy(gate);
            Packets.load(gate, again);
        }, gate -> gate.inside(again.length), 28,
                "tape", "out", "count 4", "count 5", "count 7", "count 16", "session 0 4");
        byte[] farther = six(17, Packets.udp(5000, 54));
        Check.call("a new session", gate -> {
            Scenes.busy(gate);
            Packets.load(gate, farther);
        }, gate -> gate.inside(farther.length), 28,
                "tape", "out", "count 4", "count 5", "count 7", "count 16", "count 1",
                "binding 0 4", "session 3");
        byte[] another = Packets.six(2, FAR, 17, Packets.udp(5000, 53));
        Check.call("a new binding", gate -> {
            Scenes.busy(gate);
            Packets.load(gate, another);
        }, gate -> gate.inside(another.length), 28,
                "tape", "out", "count 4", "count 5", "count 7", "count 16", "count 0", "count 1",
                "binding 3", "inner 3", "session 3");
    }

    /** Terms: "of a packet of 1260 bytes or fewer a count from 1 on .. else 0, DF is set". */
    private static void identificationAndLength() {
        int[] lengths = {1259, 1260, 1261, 1262, 1280, 1281, 1300, 1580};
        for (int length : lengths) {
            TransitGate gate = new TransitGate();
            Scenes.open(gate);
            Check.due("out of " + length, Packets.inside(gate, udp(new byte[length - 28])), length);
            boolean counted = length <= 1260;
            Check.due("identification", gate.word(1) >>> 16, counted ? 1 : 0);
            Check.due("flags", gate.word(1) & 65535, counted ? 0 : 0x4000);
            Check.due("the next", gate.count(16), counted ? 2 : 1);
        }
        TransitGate gate = new TransitGate();
        Scenes.open(gate);
        for (int i = 1; i <= 5; i++) {
            Check.due("the next is " + i, gate.count(16), i);
            Packets.inside(gate, udp());
            Check.due("it has " + i, gate.word(1) >>> 16, i);
        }
        Packets.inside(gate, udp(new byte[1233]));
        Check.due("a long one has none", gate.word(1), 0x4000);
        Packets.inside(gate, udp());
        Check.due("the count goes on", gate.word(1) >>> 16, 6);
    }

    /** Terms: the count goes on with packets that are made, not with those DROPPED. */
    private static void identificationOfDrops() {
        TransitGate gate = new TransitGate();
        Scenes.open(gate);
        gate.inside(0);
        Packets.inside(gate, Packets.with(udp(), 7, 1));
        Packets.inside(gate, tcp(Packets.ACK));
        Check.due("three drops", gate.count(10) + gate.count(13) + gate.count(15), 3);
        Check.due("still the first", gate.count(16), 1);
    }

    /** Terms: "the traffic class", "TTL 1 less than the hop limit". */
    private static void trafficAndTtl() {
        int[] classes = {0, 1, 15, 16, 128, 240, 255};
        int[] hops = {2, 3, 128, 129, 255};
        for (int traffic : classes) {
            for (int limit : hops) {
                byte[] part = Packets.udp(5000, 53);
                TransitGate gate = Packets.gate();
                byte[] packet = Packets.six(HOME, 1, SITE, FAR, traffic, limit, 17, part);
                Packets.inside(gate, Packets.with(packet, 2, 0xFF, 0xFF));
                byte[] want = Packets.four(
                        POOL, FAR, traffic, 1, 0, limit - 1, 17, Packets.udp(1024, 53));
                Check.same("class " + traffic + ", hops " + limit, Packets.out(gate), want);
            }
        }
    }

    /** Terms: "Where a made UDP one is 0, 65535 stands": of TCP and ICMP 0 does. */
    private static void madeUdpZero() {
        int[] nexts = {6, 17, 58};
        for (int next : nexts) {
            int protocol = next == 58 ? 1 : next;
            byte[] nothing = Packets.four(POOL, FAR, protocol, outPart(next, 0));
            int at = sumAt(next) - 20;
            int word = told(nothing, at);
            TransitGate gate = Packets.gate();
            byte[] data = {(byte) (word >> 8), (byte) word};
            byte[] part = next == 6 ? Packets.tcp(5001, 80, Packets.SYN, data) : partOf(next, data);
            Packets.inside(gate, six(next, part));
            byte[] out = Packets.out(gate);
            Check.due("made sum of " + next, told(out, at), next == 17 ? 65535 : 0);
            Check.due("its data", told(out, out.length - 2), word);
        }
    }

    /** The part that the first binding's packet has outside, with a last word. */
    private static byte[] outPart(int next, int word) {
        byte[] data = {(byte) (word >> 8), (byte) word};
        if (next == 6) {
            return Packets.tcp(1025, 80, Packets.SYN, data);
        }
        return next == 17 ? Packets.udp(1024, 53, data) : Packets.echo(8, 0, data);
    }

    /** Terms: "(a last single byte is a word's higher one)", in a packet that is made. */
    private static void madeOfOddLength() {
        for (int many = 0; many < 4; many++) {
            byte[] data = new byte[many];
            Arrays.fill(data, (byte) 0xA7);
            TransitGate gate = Packets.gate();
            Packets.inside(gate, udp(data));
            byte[] want = Packets.four(POOL, FAR, 0x1f, 1, 0, 63, 17,
                    Packets.udp(1024, 53, data));
            Check.same("made of " + many, Packets.out(gate), want);
        }
    }
}
