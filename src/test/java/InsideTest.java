/** Promise 8: packets from inside, why they are dropped and what is made of them. */
public final class InsideTest {
    private static final int SHORT = -10;
    private static final int KIND = -11;
    private static final int SUM = -12;
    private static final int TIME = -13;
    private static final int PLACE = -14;
    private static final int TABLE = -15;
    private static final int FAR = Packets.FAR;

    public static void main(String[] args) {
        toldPackets();
        howMany();
        shortOnes();
        kinds();
        sums();
        times();
        places();
        tables();
        firstNumberThatFits();
        dropsChangeNothing();
        headers();
        identifications();
        echoTypes();
        madeSums();
        everyPrefix();
        Check.end();
    }

    private static byte[] udp(byte... data) {
        return Packets.six(1, FAR, Packets.UDP, Packets.udp(5000, 53, data));
    }

    private static byte[] tcp(int flags) {
        return Packets.six(1, FAR, Packets.TCP, Packets.tcp(5000, 80, flags));
    }

    private static byte[] six(int next, byte[] part) {
        return Packets.six(1, FAR, next, part);
    }

    private static void due(String what, byte[] packet, int want) {
        TransitGate gate = Packets.gate();
        Check.due(what, Packets.inside(gate, packet), want);
        Check.due(what + ": tape", gate.count(4), 0);
        Check.due(what + ": made", gate.count(7), want > 0 ? 1 : 0);
        for (int number = 10; number <= 15; number++) {
            Check.due(what + ": by " + number, gate.count(number), want == -number ? 1 : 0);
        }
    }

    private static void told(TransitGate gate, String what, String packet, String out) {
        byte[] want = Packets.unhex(out);
        Check.due(what, Packets.inside(gate, Packets.unhex(packet)), want.length);
        Check.same(what, Packets.out(gate), want);
    }

    private static void toldPackets() {
        TransitGate gate = Packets.gate();
        told(gate, "UDP",
                "61fabcde000b1140 20010db8000000000000000000000001 0064ff9b000000000000000008080808"
                        + "13880035000baa4f 010203",
                "451f001f000100003f11619e0a00000108080808 04000035000bdd90 010203");
        told(gate, "TCP",
                "61fabcde00180640 20010db8000000000000000000000001 0064ff9b000000000000000008080808"
                        + "005101bb000003e8000007d0600202004a990000 020405b4",
                "451f002c000200003f06619b0a00000108080808"
                        + "000101bb000003e8000007d0600202006ea20000 020405b4");
        told(gate, "ICMP",
                "61fabcde000c3a40 20010db8000000000000000000000001 0064ff9b000000000000000008080808"
                        + "80003d95004d0007 01020304",
                "451f0020000300003f0161ab0a00000108080808 0800f3f200000007 01020304");
    }

    private static void howMany() {
        TransitGate gate = Packets.gate();
        Check.due("none of an empty tape", gate.inside(0), SHORT);
        Check.due("more than an empty tape has", gate.inside(1), -1);
        Packets.load(gate, udp());
        Check.due("more than the tape has", gate.inside(61), -1);
        Check.due("below 0", gate.inside(-1), -1);
        Check.due("least", gate.inside(Integer.MIN_VALUE), -1);
        Check.due("greatest", gate.inside(Integer.MAX_VALUE), -1);
        Check.due("nothing happened", gate.count(4), 60);
        Check.due("the first ones", gate.inside(48), 28);
        Check.due("the tape is empty", gate.count(4), 0);
        Check.due("dropped by 10", gate.count(10), 1);
    }

    private static void shortOnes() {
        due("39 bytes", java.util.Arrays.copyOf(udp(), 39), SHORT);
        due("40 bytes", Packets.with(java.util.Arrays.copyOf(udp(), 40), 4, 0, 0), KIND);
        due("version 4", Packets.with(udp(), 0, 0x41), SHORT);
        due("version 7", Packets.with(udp(), 0, 0x71), SHORT);
        due("length too small", Packets.with(udp(), 5, 7), SHORT);
        due("length too great", Packets.with(udp(), 5, 9), SHORT);
        due("length's higher byte", Packets.with(udp(), 4, 1), SHORT);
        due("right", udp(), 28);
    }

    private static void kinds() {
        int[] others = {0, 1, 5, 7, 16, 18, 43, 44, 57, 59, 255};
        for (int next : others) {
            due("next header " + next, six(next, Packets.udp(5000, 53)), KIND);
        }
        byte[] segment = Packets.tcp(5000, 80, Packets.SYN);
        due("TCP of 19 bytes", six(6, java.util.Arrays.copyOf(segment, 19)), KIND);
        due("TCP of no byte", six(6, new byte[0]), KIND);
        due("data offset 4", six(6, Packets.with(segment, 12, 0x4f)), KIND);
        due("data offset beyond", six(6, Packets.with(segment, 12, 0x60)), KIND);
        byte[] longer = Packets.tcp(5000, 80, Packets.SYN, new byte[4]);
        due("data offset at the end", six(6, Packets.with(longer, 12, 0x60)), 44);
        due("UDP of 7 bytes", six(17, Packets.bytes(19, 136, 0, 53, 0, 7, 0)), KIND);
        due("UDP length below", six(17, Packets.with(Packets.udp(5000, 53), 5, 7)), KIND);
        due("UDP length above", six(17, Packets.with(Packets.udp(5000, 53), 5, 9)), KIND);
        due("UDP length 0", six(17, Packets.with(Packets.udp(5000, 53), 5, 0)), KIND);
        due("ICMPv6 of 7 bytes", six(58, Packets.bytes(128, 0, 0, 0, 0, 1, 0)), KIND);
        int[] types = {0, 1, 2, 3, 8, 127, 130, 135, 255};
        for (int type : types) {
            due("ICMPv6 type " + type, six(58, Packets.echo(type, 7)), KIND);
        }
        due("ICMPv6 of another code", six(58, Packets.with(Packets.echo(128, 7), 1, 9)), 28);
    }

    private static void sums() {
        due("UDP bent", Packets.with(udp(Packets.bytes(1)), 48, 2), SUM);
        due("UDP sum 0", Packets.with(udp(), 46, 0, 0), SUM);
        byte[] segment = tcp(Packets.SYN);
        due("TCP bent", Packets.with(segment, 43, 81), SUM);
        due("TCP from elsewhere", Packets.with(segment, 23, 2), SUM);
        due("TCP to elsewhere", Packets.with(segment, 39, 9), SUM);
        due("ICMPv6 bent", Packets.with(six(58, Packets.echo(128, 7)), 47, 9), SUM);
        due("ICMPv6 from elsewhere", Packets.with(six(58, Packets.echo(128, 7)), 23, 9), SUM);
        due("flow label is not summed", Packets.with(udp(), 3, 9), 28);

        byte[] zero = zeroSummed(17);
        Check.due("65535 stands", (zero[46] & 255) << 8 | zero[47] & 255, 65535);
        due("65535 is for 0", zero, 30);
        due("0 is never right", Packets.with(zero, 46, 0, 0), SUM);
        due("TCP: 0 is right", zeroSummed(6), 42);
        due("TCP: 65535 is not", Packets.with(zeroSummed(6), 56, 255, 255), SUM);
        due("ICMPv6: 0 is right", zeroSummed(58), 30);
        due("ICMPv6: 65535 is not", Packets.with(zeroSummed(58), 42, 255, 255), SUM);
    }

    /** A packet whose checksum adds up to 0, found by trying all last words. */
    private static byte[] zeroSummed(int next) {
        byte[] data = new byte[2];
        byte[] part = next == 6 ? Packets.tcp(5000, 80, 2, data)
                : next == 17 ? Packets.udp(5000, 53, data) : Packets.echo(128, 7, data);
        int at = 40 + (next == 6 ? 16 : next == 17 ? 6 : 2);
        for (int word = 0; word < 65536; word++) {
            byte[] packet = six(next, Packets.with(part, part.length - 2, word >> 8, word));
            int sum = (packet[at] & 255) << 8 | packet[at + 1] & 255;
            if (sum == (next == 17 ? 65535 : 0)) {
                return packet;
            }
        }
        return new byte[0];
    }

    private static void times() {
        due("hop limit 0", Packets.with(udp(), 7, 0), TIME);
        due("hop limit 1", Packets.with(udp(), 7, 1), TIME);
        due("hop limit 2", Packets.with(udp(), 7, 2), 28);
        due("hop limit 255", Packets.with(udp(), 7, 255), 28);
    }

    private static byte[] between(long fromHigh, long fromLow, long toHigh, long toLow) {
        byte[] part = Packets.udp(5000, 53);
        return Packets.six(fromHigh, fromLow, toHigh, toLow, 0, 64, 17, part);
    }

    private static void places() {
        TransitGate bare = new TransitGate();
        Check.due("nothing set", Packets.inside(bare, udp()), PLACE);
        bare.prefix(Packets.SITE, 0, 96);
        Check.due("no pool", Packets.inside(bare, udp()), PLACE);
        TransitGate pooled = new TransitGate();
        pooled.pool(Packets.POOL);
        Check.due("no prefix", Packets.inside(pooled, udp()), PLACE);
        long home = Packets.HOME;
        long site = Packets.SITE;
        due("not of the prefix", between(home, 1, site + 1, 0x08080808), PLACE);
        due("not of its last bit", between(home, 1, site, 0x108080808L), PLACE);
        due("from the prefix", between(site, 1, site, 0x08080808), PLACE);
        due("from its least address", between(site, 0, site, 0x08080808), PLACE);
        due("from beside the prefix", between(site + 1, 1, site, 0x08080808), 28);
        int[] odd = {0, 127, 224, 255};
        for (int first : odd) {
            due("to " + first, between(home, 1, site, (long) first << 24 | 1), PLACE);
        }
        due("to 1", between(home, 1, site, 0x01000000), 28);
        due("to 126", between(home, 1, site, 0x7effffff), 28);
        due("to 223", between(home, 1, site, 0xdfffffffL), 28);
        due("to the pool", between(home, 1, site, Packets.POOL), 28);
    }

    private static void tables() {
        due("TCP SYN", tcp(Packets.SYN), 40);
        due("TCP SYN and more", tcp(Packets.SYN | Packets.ACK | Packets.FIN), 40);
        due("TCP plain", tcp(Packets.ACK), TABLE);
        due("TCP FIN", tcp(Packets.FIN), TABLE);
        due("TCP RST", tcp(Packets.RST), TABLE);
        due("TCP SYN and RST", tcp(Packets.SYN | Packets.RST), TABLE);
        TransitGate gate = Packets.gate();
        Packets.inside(gate, tcp(Packets.SYN));
        byte[] elsewhere = Packets.six(1, FAR + 1, 6, Packets.tcp(5000, 80, Packets.ACK));
        Check.due("plain, to elsewhere", Packets.inside(gate, elsewhere), TABLE);
        byte[] another = Packets.six(1, FAR, 6, Packets.tcp(5000, 81, Packets.ACK));
        Check.due("plain, to another port", Packets.inside(gate, another), TABLE);
        Check.due("plain, of the session", Packets.inside(gate, tcp(Packets.ACK)), 40);
        Check.due("one session", gate.count(1), 1);
    }

    private static void firstNumberThatFits() {
        byte[] all = Packets.six(Packets.SITE, 1, Packets.HOME, 1, 0, 1, 6,
                Packets.tcp(5000, 80, Packets.ACK));
        byte[] wrongKind = Packets.with(all, 52, 0x40);
        due("short first", Packets.with(wrongKind, 0, 0x40), SHORT);
        due("kind before sum", Packets.with(wrongKind, 43, 9), KIND);
        due("sum before time", Packets.with(all, 43, 9), SUM);
        due("time before place", all, TIME);
        due("place before table", Packets.with(all, 7, 2), PLACE);
    }

    private static void dropsChangeNothing() {
        TransitGate gate = Packets.gate();
        Packets.inside(gate, udp(Packets.bytes(1, 2, 3, 4)));
        byte[] before = Packets.out(gate);
        byte[] elsewhere = Packets.six(2, FAR, 17, Packets.udp(6000, 54));
        Packets.inside(gate, Packets.with(elsewhere, 7, 1));
        Packets.inside(gate, Packets.with(elsewhere, 41, 1));
        Packets.inside(gate, Packets.six(3, FAR, 6, Packets.tcp(1, 2, Packets.ACK)));
        Check.same("out stays", Packets.out(gate), before);
        Check.due("bindings", gate.count(0), 1);
        Check.due("sessions", gate.count(1), 1);
        Check.due("identification", gate.count(16), 2);
        Check.due("made", gate.count(7), 1);
    }

    private static void headers() {
        int[][] cases = {{0, 2}, {255, 255}, {0xa5, 128}};
        for (int[] each : cases) {
            TransitGate gate = Packets.gate();
            byte[] part = Packets.udp(5001, 53, Packets.bytes(1, 2, 3));
            byte[] packet = Packets.six(
                    Packets.HOME, 1, Packets.SITE, 0xdf000001L, each[0], each[1], 17, part);
            Packets.inside(gate, packet);
            byte[] want = Packets.four(Packets.POOL, 0xdf000001, each[0], 1, 0, each[1] - 1, 17,
                    Packets.udp(1025, 53, Packets.bytes(1, 2, 3)));
            Check.same("class " + each[0], Packets.out(gate), want);
        }
    }

    private static void identifications() {
        TransitGate gate = Packets.gate();
        int[] totals = {1260, 1261, 28};
        int[] stamps = {1, 0, 2};
        for (int i = 0; i < totals.length; i++) {
            int many = Packets.inside(gate, udp(new byte[totals[i] - 28]));
            Check.due("total", many, totals[i]);
            Check.due("identification of " + totals[i], gate.word(1) >>> 16, stamps[i]);
            Check.due("flags of " + totals[i], gate.word(1) & 65535, stamps[i] == 0 ? 0x4000 : 0);
            Check.due("the next one", gate.count(16), i == 2 ? 3 : 2);
        }
        TransitGate longest = Packets.gate();
        byte[] data = new byte[1552];
        java.util.Arrays.fill(data, (byte) 0xee);
        Check.due("the longest", Packets.inside(longest, udp(data)), 1580);
        byte[] want = Packets.four(Packets.POOL, FAR, 0x1f, 0, 0x4000, 63, 17,
                Packets.udp(1024, 53, data));
        Check.same("the longest", Packets.out(longest), want);
    }

    private static void echoTypes() {
        int[][] types = {{128, 8}, {129, 0}};
        for (int[] type : types) {
            TransitGate gate = Packets.gate();
            byte[] part = Packets.with(Packets.echo(type[0], 300, (byte) 5), 1, 3);
            Packets.inside(gate, six(58, part));
            byte[] turned = Packets.with(Packets.echo(type[1], 0, (byte) 5), 1, 3);
            byte[] want = Packets.four(Packets.POOL, FAR, 0x1f, 1, 0, 63, 1, turned);
            Check.same("echo " + type[0], Packets.out(gate), want);
            Check.due("its protocol", gate.binding(0, 0), 1);
            Check.due("its identifier", gate.binding(0, 1), 300);
            Check.due("its far port", gate.session(0, 2), 0);
        }
    }

    /** Packets whose new checksums add up to 0: 65535 stands for it in UDP alone. */
    private static void madeSums() {
        boolean udpMet = false;
        boolean tcpMet = false;
        for (int word = 0; word < 65536; word++) {
            byte[] data = Packets.bytes(word >> 8, word);
            byte[] made = Packets.four(Packets.POOL, FAR, 17, Packets.udp(1024, 53, data));
            if (!udpMet && made[26] == -1 && made[27] == -1) {
                udpMet = true;
                TransitGate gate = Packets.gate();
                Packets.inside(gate, udp(data));
                Check.due("UDP made 65535", gate.word(6) & 65535, 65535);
            }
            made = Packets.four(Packets.POOL, FAR, 6, Packets.tcp(1024, 80, 2, data));
            if (!tcpMet && made[36] == 0 && made[37] == 0) {
                tcpMet = true;
                TransitGate gate = Packets.gate();
                Packets.inside(gate, six(6, Packets.tcp(5000, 80, 2, data)));
                Check.due("TCP made 0", gate.word(9) >>> 16, 0);
                Check.due("TCP data", gate.word(10) >>> 16, word);
            }
        }
        Check.due("UDP met", udpMet, true);
        Check.due("TCP met", tcpMet, true);
    }

    private static void everyPrefix() {
        int[] lengths = {32, 40, 48, 56, 64, 96};
        for (int length : lengths) {
            TransitGate gate = new TransitGate();
            gate.prefix(0x20010db801220344L, 0x0500000000000000L, length);
            gate.pool(Packets.POOL);
            byte[] part = Packets.udp(5000, 53);
            byte[] packet = Packets.six(0xfd00000000000000L, 9,
                    gate.high(0xC0000221), gate.low(0xC0000221), 0, 64, 17, part);
            Check.due("inside " + length, Packets.inside(gate, packet), 28);
            Check.due("to " + length, gate.word(4), 0xC0000221);
            byte[] within = Packets.six(gate.high(9), gate.low(9),
                    gate.high(0xC0000221), gate.low(0xC0000221), 0, 64, 17, part);
            Check.due("from within " + length, Packets.inside(gate, within), PLACE);
        }
    }
}
