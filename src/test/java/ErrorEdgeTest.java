import java.nio.ByteBuffer;
import java.util.Arrays;
import java.util.function.Consumer;

/**
 * The boundary cases of the term ERRORS (promise 9); above each test stands the sentence that it
 * holds to. A dropped error changes the tape and its own count, a made one no session either.
 */
public final class ErrorEdgeTest {
    private static final int KIND = 11;
    private static final int SUM = 12;
    private static final int TIME = 13;
    private static final int PLACE = 14;
    private static final int TABLE = 15;
    private static final int FAR = Packets.FAR;
    private static final int POOL = Packets.POOL;
    private static final int ROUTER = Packets.ip(5, 5, 5, 5);

    public static void main(String[] args) {
        codesOfThree();
        codesOfEleven();
        fewerThanTwentyEight();
        versionsWithin();
        wordsWithin();
        protocolsWithin();
        typesWithin();
        whatIsNotLookedAt();
        kindBeforeSum();
        sumsBeforeTimes();
        placesAbove();
        sourcesWithin();
        oddDestinationsWithin();
        placeBeforeTable();
        noBinding();
        noSessionIsTouched();
        fullTablesAreNoMatter();
        turnedCodes();
        theFourBytes();
        payloadLengths();
        headerWithin();
        portsWithin();
        cutting();
        madeOfOddLength();
        Check.end();
    }

    private static byte[] udpWithin(byte... data) {
        return Packets.four(POOL, FAR, 0x55, 3, 0, 9, 17, Packets.udp(1024, 53, data));
    }

    private static byte[] tcpWithin() {
        return Packets.four(POOL, FAR, 6, Packets.tcp(1025, 80, Packets.ACK));
    }

    private static byte[] pingWithin(int type) {
        return Packets.four(POOL, FAR, 1, Packets.echo(type, 0));
    }

    private static byte[] error(int type, int code, byte[] within) {
        return Packets.four(ROUTER, POOL, 1, Packets.error(type, code, 0, within));
    }

    private static void dropped(
            String what, Consumer<TransitGate> scene, byte[] packet, int number) {
        Check.call(what, scene.andThen(gate -> Packets.load(gate, packet)),
                gate -> gate.outside(packet.length), -number,
                "tape", "count 4", "count " + number);
    }

    private static void dropped(String what, byte[] packet, int number) {
        dropped(what, Scenes::busy, packet, number);
    }

    private static void made(String what, Consumer<TransitGate> scene, byte[] packet) {
        int length = Math.min(packet.length + 40, 1280);
        Check.call(what, scene.andThen(gate -> Packets.load(gate, packet)),
                gate -> gate.outside(packet.length), length,
                "tape", "out", "count 4", "count 5", "count 7");
    }

    private static void made(String what, byte[] packet) {
        made(what, Scenes::busy, packet);
    }

    private static byte[] out(byte[] packet) {
        TransitGate gate = new TransitGate();
        Scenes.busy(gate);
        Packets.outside(gate, packet);
        return Packets.out(gate);
    }

    /** Terms: "of type 3 a code that is not 0 .. 1, 3 .. 13, 15". */
    private static void codesOfThree() {
        for (int code = 0; code < 256; code++) {
            byte[] packet = error(3, code, udpWithin());
            if (code <= 1 || code >= 3 && code <= 13 || code == 15) {
                made("3, " + code, packet);
            } else {
                dropped("3, " + code, packet, KIND);
            }
        }
    }

    /** Terms: "of type 11 one above 1". */
    private static void codesOfEleven() {
        for (int code = 0; code < 256; code++) {
            byte[] packet = error(11, code, udpWithin());
            if (code <= 1) {
                made("11, " + code, packet);
            } else {
                dropped("11, " + code, packet, KIND);
            }
        }
    }

    /** Terms: "fewer than 28 bytes behind the 8". */
    private static void fewerThanTwentyEight() {
        byte[][] all = {udpWithin(), tcpWithin(), pingWithin(8)};
        for (byte[] within : all) {
            made("28 bytes", error(3, 1, Arrays.copyOf(within, 28)));
            int[] fewer = {0, 1, 19, 20, 26, 27};
            for (int length : fewer) {
                dropped(length + " bytes", error(3, 1, Arrays.copyOf(within, length)), KIND);
                dropped(length + " bytes", error(11, 0, Arrays.copyOf(within, length)), KIND);
            }
        }
        made("29 bytes", error(3, 1, udpWithin((byte) 1)));
    }

    /** Terms: "the packet within: version not 4". */
    private static void versionsWithin() {
        for (int version = 0; version < 16; version++) {
            byte[] packet = error(3, 1, Packets.with(udpWithin(), 0, version << 4 | 5));
            if (version == 4) {
                made("version 4", packet);
            } else {
                dropped("version " + version, packet, KIND);
            }
        }
    }

    /** Terms: "not five words". */
    private static void wordsWithin() {
        byte[] within = udpWithin(new byte[60]);
        for (int words = 0; words < 16; words++) {
            byte[] packet = error(3, 1, Packets.with(within, 0, 0x40 | words));
            if (words == 5) {
                made("five words", packet);
            } else {
                dropped(words + " words", packet, KIND);
            }
        }
    }

    /** Terms: "protocol not 1, 6, 17". */
    private static void protocolsWithin() {
        made("protocol 17", error(3, 1, udpWithin()));
        made("protocol 6", error(3, 1, tcpWithin()));
        made("protocol 1", error(3, 1, pingWithin(8)));
        for (int protocol = 0; protocol < 256; protocol++) {
            if (protocol == 1 || protocol == 6 || protocol == 17) {
                continue;
            }
            dropped("protocol " + protocol,
                    error(3, 1, Packets.with(udpWithin(), 9, protocol)), KIND);
        }
    }

    /** Terms: "of 1 type not 8". */
    private static void typesWithin() {
        for (int type = 0; type < 256; type++) {
            if (type == 8) {
                made("type 8", error(3, 1, pingWithin(8)));
            } else {
                dropped("type " + type, error(3, 1, pingWithin(type)), KIND);
            }
        }
        made("a code of it", error(3, 1, Packets.with(pingWithin(8), 21, 255)));
        byte[] port = Packets.with(udpWithin(), 20, 4, 0);
        made("no type of UDP", error(3, 1, port));
    }

    /** Terms: the packet within is asked for nothing but what is named. */
    private static void whatIsNotLookedAt() {
        byte[] within = udpWithin();
        made("its sum", error(3, 1, Packets.with(within, 10, 0, 0)));
        made("the sum of its part", error(3, 1, Packets.with(within, 26, 0, 0)));
        made("its fragment", error(3, 1, Packets.with(within, 6, 255, 255)));
        made("its TTL", error(3, 1, Packets.with(within, 8, 0)));
        made("its length", error(3, 1, Packets.with(within, 2, 255, 255)));
        made("the length of UDP", error(3, 1, Packets.with(within, 24, 255, 255)));
        made("an offset of TCP", error(3, 1, Packets.with(tcpWithin(), 32, 0)));
    }

    /** Terms: "(all this among 11 KIND above)", before the sum of the part. */
    private static void kindBeforeSum() {
        byte[] packet = error(3, 1, udpWithin());
        dropped("a code", Packets.with(packet, 21, 2), KIND);
        dropped("a version", Packets.with(packet, 28, 0x55), KIND);
        dropped("a protocol", Packets.with(packet, 37, 2), KIND);
        byte[] brief = error(3, 1, Arrays.copyOf(udpWithin(), 27));
        dropped("27 bytes", Packets.with(brief, 22, 0, 1), KIND);
        byte[] ping = error(3, 1, pingWithin(8));
        dropped("a type", Packets.with(ping, 48, 0), KIND);
        dropped("a fragment", Packets.headSigned(Packets.with(packet, 6, 0x20)), KIND);
    }

    /** Terms: "12 SUM of the part. 13 TIME: TTL below 2", before the places. */
    private static void sumsBeforeTimes() {
        byte[] nowhere = Packets.with(udpWithin(), 12, 9, 9, 9, 9);
        byte[] packet = error(3, 1, nowhere);
        byte[] late = Packets.headSigned(Packets.with(packet, 8, 1));
        dropped("12 before 13", Packets.with(late, 55, 0x77), SUM);
        dropped("13 before 14", late, TIME);
        dropped("TTL 2", Packets.headSigned(Packets.with(packet, 8, 2)), PLACE);
        byte[] sound = error(3, 1, udpWithin());
        made("TTL 2, at its place", Packets.headSigned(Packets.with(sound, 8, 2)));
        dropped("TTL 1, at its place", Packets.headSigned(Packets.with(sound, 8, 1)), TIME);
    }

    /** Terms: "14 PLACE: no PREFIX; the destination is not of THE POOL; the source is ODD". */
    private static void placesAbove() {
        byte[] part = Packets.error(3, 1, 0, udpWithin());
        dropped("no prefix", gate -> gate.pool(POOL), error(3, 1, udpWithin()), PLACE);
        dropped("no pool", gate -> gate.prefix(Packets.SITE, 0, 96),
                error(3, 1, udpWithin()), PLACE);
        dropped("to another", Packets.four(ROUTER, POOL + 2, 1, part), PLACE);
        made("to another of the pool", Packets.four(ROUTER, POOL + 1, 1, part));
        int[] odd = {0x00FFFFFF, 0x7F000000, 0x7FFFFFFF, 0xE0000000};
        for (int from : odd) {
            dropped("from an odd one", Packets.four(from, POOL, 1, part), PLACE);
        }
        int[] others = {0x01000000, 0x7EFFFFFF, 0x80000000, 0xDFFFFFFF};
        for (int from : others) {
            made("from another", Packets.four(from, POOL, 1, part));
        }
    }

    private static byte[] withAddress(byte[] within, int at, int address) {
        byte[] changed = within.clone();
        ByteBuffer.wrap(changed).putInt(at, address);
        return changed;
    }

    /** Terms: "14 PLACE (behind those above): its source is not of THE POOL". */
    private static void sourcesWithin() {
        int[] beside = {POOL - 1, POOL + 2, POOL ^ 1 << 31, 0, FAR};
        for (int from : beside) {
            dropped("from another", error(3, 1, withAddress(udpWithin(), 12, from)), PLACE);
        }
        dropped("from one without bindings",
                error(3, 1, withAddress(udpWithin(), 12, POOL + 1)), TABLE);
        made("from the pool", error(3, 1, udpWithin()));
    }

    /** Terms: "its destination is ODD". */
    private static void oddDestinationsWithin() {
        int[] odd = {0, 0x00FFFFFF, 0x7F000000, 0x7FFFFFFF, 0xE0000000, 0xFFFFFFFF};
        for (int to : odd) {
            dropped("to " + Integer.toHexString(to),
                    error(3, 1, withAddress(udpWithin(), 16, to)), PLACE);
        }
        int[] others = {0x01000000, 0x7EFFFFFF, 0x80000000, 0xDFFFFFFF, POOL};
        for (int to : others) {
            made("to " + Integer.toHexString(to),
                    error(3, 1, withAddress(udpWithin(), 16, to)));
        }
    }

    /** Terms: "14 PLACE (behind those above)", and before 15. */
    private static void placeBeforeTable() {
        byte[] unknown = Packets.with(udpWithin(), 20, 9, 9);
        dropped("14 before 15", error(3, 1, withAddress(unknown, 16, 0)), PLACE);
        dropped("15", error(3, 1, unknown), TABLE);
    }

    /** Terms: "15 TABLE: no BINDING of its protocol with that OUTER (its source and port)". */
    private static void noBinding() {
        int[] ports = {0, 1023, 1025, 1026, 5000, 65535};
        for (int port : ports) {
            dropped("UDP of " + port,
                    error(3, 1, Packets.with(udpWithin(), 20, port >> 8, port)), TABLE);
        }
        dropped("TCP of UDP's port", error(3, 1, Packets.with(tcpWithin(), 21, 0)), TABLE);
        dropped("identifier 1", error(3, 1, Packets.with(pingWithin(8), 24, 0, 1)), TABLE);
        dropped("identifier 300", error(3, 1, Packets.with(pingWithin(8), 24, 1, 44)), TABLE);
        dropped("none at all", Scenes::open, error(3, 1, udpWithin()), TABLE);
        byte[] last = Packets.with(udpWithin(), 20, 1087 >> 8, 1087 & 255);
        made("the last of 64", Scenes::fullBindings, error(3, 1, last));
        byte[] behind = Packets.with(udpWithin(), 20, 1088 >> 8, 1088 & 255);
        dropped("behind the last of 64", Scenes::fullBindings, error(3, 1, behind), TABLE);
    }

    /** Terms: "No SESSION is touched": none is asked for, made, or changed. */
    private static void noSessionIsTouched() {
        byte[] elsewhere = withAddress(udpWithin(), 16, FAR + 9);
        made("of no session", error(3, 1, elsewhere));
        made("a SYN within", error(3, 1, Packets.with(tcpWithin(), 33, Packets.SYN)));
        made("a RST within", error(3, 1, Packets.with(tcpWithin(), 33, Packets.RST)));
        made("a FIN within", error(11, 1, Packets.with(tcpWithin(), 33, Packets.FIN)));
        made("a plain one to another port", error(3, 3, Packets.with(tcpWithin(), 23, 81)));
        made("an echo", error(11, 0, pingWithin(8)));
    }

    /** Terms: "No SESSION is touched": no room is needed for one. */
    private static void fullTablesAreNoMatter() {
        byte[] elsewhere = withAddress(udpWithin(), 16, FAR - 9);
        made("64 bindings", Scenes::fullBindings, error(3, 1, elsewhere));
        made("128 sessions", Scenes::fullSessions, error(3, 1, elsewhere));
    }

    /** Terms: "of 3: codes 3: 1, 4; 4: 2, 0; 9, 10, 13, 15: 1, 1; others: 1, 0; of 11: 3 and". */
    private static void turnedCodes() {
        int[] turned = {0x100, 0x100, 0, 0x104, 0x200, 0x100, 0x100, 0x100, 0x100, 0x101, 0x101,
            0x100, 0x100, 0x101, 0, 0x101};
        for (int code = 0; code < turned.length; code++) {
            if (turned[code] != 0) {
                byte[] out = out(error(3, code, udpWithin()));
                Check.due("of 3, " + code, (out[40] & 255) << 8 | out[41], turned[code]);
            }
        }
        for (int code = 0; code < 2; code++) {
            byte[] out = out(error(11, code, udpWithin()));
            Check.due("of 11, " + code, (out[40] & 255) << 8 | out[41], 0x300 | code);
        }
    }

    /** Terms: "the four bytes .. 0, of 2, 0 the greater of 1280 and 20 more than the number". */
    private static void theFourBytes() {
        int[][] numbers = {{0, 1280}, {1, 1280}, {1259, 1280}, {1260, 1280}, {1261, 1281},
            {1280, 1300}, {32767, 32787}, {32768, 32788}, {65515, 65535}, {65516, 65536},
            {65535, 65555}};
        for (int[] each : numbers) {
            for (int code = 3; code <= 5; code++) {
                byte[] part = Packets.error(3, code, each[0], udpWithin());
                byte[] out = out(Packets.four(ROUTER, POOL, 1, part));
                Check.due("number " + each[0] + " of code " + code,
                        ByteBuffer.wrap(out).getInt(44), code == 4 ? each[1] : 0);
            }
            byte[] part = Packets.error(11, 0, each[0], udpWithin());
            byte[] out = out(Packets.four(ROUTER, POOL, 1, part));
            Check.due("number " + each[0] + " of 11", ByteBuffer.wrap(out).getInt(44), 0);
        }
    }

    /** Terms: "payload length its total length less 20 (modulo 65536)". */
    private static void payloadLengths() {
        int[] totals = {0, 1, 19, 20, 21, 28, 256, 275, 276, 32768, 65535};
        for (int total : totals) {
            byte[] within = Packets.with(udpWithin(), 2, total >> 8, total);
            byte[] out = out(error(3, 1, within));
            int want = total < 20 ? total + 65516 : total - 20;
            Check.due("total length " + total, ByteBuffer.wrap(out).getShort(52) & 65535, want);
            Check.due("all bytes are there", out.length, 96);
        }
    }

    /** Terms: "version 6, its type of service, flow label 0, .. hop limit its TTL". */
    private static void headerWithin() {
        int[] values = {0, 1, 15, 16, 128, 240, 255};
        for (int value : values) {
            byte[] within = Packets.with(udpWithin(), 1, value);
            byte[] out = out(error(3, 1, within));
            Check.due("service " + value, ByteBuffer.wrap(out).getInt(48), 6 << 28 | value << 20);
            within = Packets.with(udpWithin(), 8, value);
            out = out(error(3, 1, within));
            Check.due("TTL " + value, out[55] & 255, value);
        }
        Check.due("next header 17", out(error(3, 1, udpWithin()))[54], 17);
        Check.due("next header 6", out(error(3, 1, tcpWithin()))[54], 6);
        Check.due("next header 58", out(error(3, 1, pingWithin(8)))[54], 58);
    }

    /** Terms: "with the source port (identifier) INNER's, type 8 as 128, checksums as they are". */
    private static void portsWithin() {
        byte[] udp = Packets.with(udpWithin(), 26, 0, 0);
        byte[] out = out(error(3, 1, udp));
        byte[] want = Packets.with(Arrays.copyOfRange(udp, 20, 28), 0, 5000 >> 8, 5000 & 255);
        Check.same("UDP, a checksum of 0", Arrays.copyOfRange(out, 88, out.length), want);
        byte[] tcp = tcpWithin();
        out = out(error(3, 1, tcp));
        want = Packets.with(Arrays.copyOfRange(tcp, 20, 40), 0, 5001 >> 8, 5001 & 255);
        Check.same("TCP", Arrays.copyOfRange(out, 88, out.length), want);
        byte[] ping = Packets.with(pingWithin(8), 21, 9);
        out = out(error(3, 1, ping));
        want = Packets.with(Arrays.copyOfRange(ping, 20, 28), 0, 128);
        Check.same("ICMP", Arrays.copyOfRange(out, 88, out.length),
                Packets.with(want, 4, 300 >> 8, 300 & 255));
        // The port stands in the packet within even where that is the last of it.
        byte[] brief = Arrays.copyOf(tcpWithin(), 28);
        out = out(error(3, 1, brief));
        want = Packets.with(Arrays.copyOfRange(brief, 20, 28), 0, 5001 >> 8, 5001 & 255);
        Check.same("TCP of eight bytes", Arrays.copyOfRange(out, 88, out.length), want);
    }

    /** Terms: "all that would make more than 1280 bytes in all is cut off". */
    private static void cutting() {
        int[] lengths = {1238, 1239, 1240, 1241, 1242, 1260, 1280, 1599, 1600};
        for (int length : lengths) {
            byte[] data = new byte[length - 56];
            for (int i = 0; i < data.length; i++) {
                data[i] = (byte) (i * 7 + 1);
            }
            byte[] packet = error(3, 1, udpWithin(data));
            made("an error of " + length, packet);
            byte[] out = out(packet);
            int kept = Math.min(length + 40, 1280);
            Check.due("bytes of " + length, out.length, kept);
            Check.due("its payload length", ByteBuffer.wrap(out).getShort(4), kept - 40);
            Check.due("that within is not cut", ByteBuffer.wrap(out).getShort(52), length - 48);
            Check.due("the last byte", out[kept - 1], (byte) ((kept - 97) * 7 + 1));
            Check.same("its checksum", out, Packets.signed(out.clone(), 40));
        }
    }

    /** Terms: "(a last single byte is a word's higher one)", in an error that is made. */
    private static void madeOfOddLength() {
        for (int many = 0; many < 4; many++) {
            byte[] data = new byte[many];
            Arrays.fill(data, (byte) 0xA7);
            byte[] out = out(error(3, 1, udpWithin(data)));
            Check.due("bytes", out.length, 96 + many);
            Check.same("made of " + many, out, Packets.signed(out.clone(), 40));
        }
    }
}
