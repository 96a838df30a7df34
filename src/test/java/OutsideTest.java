/** Promise 9: packets from outside that are no errors. */
public final class OutsideTest {
    private static final int SHORT = -10;
    private static final int KIND = -11;
    private static final int SUM = -12;
    private static final int TIME = -13;
    private static final int PLACE = -14;
    private static final int TABLE = -15;
    private static final int FAR = Packets.FAR;
    private static final int POOL = Packets.POOL;

    public static void main(String[] args) {
        toldPackets();
        howMany();
        shortOnes();
        kinds();
        sums();
        times();
        places();
        tables();
        firstNumberThatFits();
        headers();
        echoTypes();
        madeSums();
        everyPrefix();
        longest();
        Check.end();
    }

    /** A gate with a binding of each protocol: UDP 1024, TCP 1024, ICMP 0. */
    private static TransitGate gate() {
        TransitGate gate = Packets.gate();
        Packets.inside(gate, Packets.six(1, FAR, 17, Packets.udp(5000, 53)));
        Packets.inside(gate, Packets.six(1, FAR, 6, Packets.tcp(5000, 80, Packets.SYN)));
        Packets.inside(gate, Packets.six(1, FAR, 58, Packets.echo(128, 300)));
        Check.due("bindings", gate.count(0), 3);
        return gate;
    }

    private static byte[] udp(byte... data) {
        return Packets.four(FAR, POOL, 17, Packets.udp(53, 1024, data));
    }

    private static byte[] tcp(int flags) {
        return Packets.four(FAR, POOL, 6, Packets.tcp(80, 1024, flags));
    }

    private static byte[] four(int protocol, byte[] part) {
        return Packets.four(FAR, POOL, protocol, part);
    }

    /** The packet with a byte changed and its header signed anew. */
    private static byte[] head(byte[] packet, int at, int... values) {
        return Packets.headSigned(Packets.with(packet, at, values));
    }

    private static void due(String what, byte[] packet, int want) {
        TransitGate gate = gate();
        Check.due(what, Packets.outside(gate, packet), want);
        Check.due(what + ": tape", gate.count(4), 0);
        Check.due(what + ": made", gate.count(7), want > 0 ? 4 : 3);
        Check.due(what + ": out", gate.count(5), want > 0 ? want : 28);
        for (int number = 10; number <= 15; number++) {
            Check.due(what + ": by " + number, gate.count(number), want == -number ? 1 : 0);
        }
    }

    private static void told(TransitGate gate, String what, String packet, String out) {
        byte[] want = Packets.unhex(out);
        Check.due(what, Packets.outside(gate, Packets.unhex(packet)), want.length);
        Check.same(what, Packets.out(gate), want);
    }

    private static void toldPackets() {
        TransitGate gate = Packets.gate();
        Packets.inside(gate, Packets.six(1, FAR, 17, Packets.udp(5000, 53)));
        Packets.inside(gate, Packets.six(1, FAR, 6, Packets.tcp(81, 443, Packets.SYN)));
        Packets.inside(gate, Packets.six(1, FAR, 58, Packets.echo(128, 77)));
        told(gate, "UDP",
                "452e00200007400040112088080808080a000001 00350400000cd182 09080706",
                "62e00000000c113f 0064ff9b000000000000000008080808 20010db8000000000000000000000001"
                        + "00351388000c9e41 09080706");
        told(gate, "TCP",
                "452e0028000740004006208b080808080a000001"
                        + "01bb000100000001000000025012006393a00000",
                "62e000000014063f 0064ff9b000000000000000008080808 20010db8000000000000000000000001"
                        + "01bb00510000000100000002501200636f970000");
        told(gate, "ICMP",
                "452e00200007400040012098080808080a000001 0000fbf200000007 01020304",
                "62e00000000c3a3f 0064ff9b000000000000000008080808 20010db8000000000000000000000001"
                        + "81003c95004d0007 01020304");
    }

    private static void howMany() {
        TransitGate gate = gate();
        Check.due("none of an empty tape", gate.outside(0), SHORT);
        Check.due("more than an empty tape has", gate.outside(1), -1);
        Packets.load(gate, udp());
        Check.due("more than the tape has", gate.outside(41), -1);
        Check.due("below 0", gate.outside(-1), -1);
        Check.due("least", gate.outside(Integer.MIN_VALUE), -1);
        Check.due("greatest", gate.outside(Integer.MAX_VALUE), -1);
        Check.due("nothing happened", gate.count(4), 40);
        Check.due("the first ones", gate.outside(28), 48);
        Check.due("the tape is empty", gate.count(4), 0);
    }

    private static void shortOnes() {
        due("19 bytes", java.util.Arrays.copyOf(udp(), 19), SHORT);
        due("20 bytes", head(java.util.Arrays.copyOf(udp(), 20), 3, 20), KIND);
        due("version 6", head(udp(), 0, 0x65), SHORT);
        due("version 5", head(udp(), 0, 0x55), SHORT);
        due("four words", head(udp(), 0, 0x44), SHORT);
        due("six words", head(udp(new byte[8]), 0, 0x46), SHORT);
        due("length too small", head(udp(), 3, 27), SHORT);
        due("length too great", head(udp(), 3, 29), SHORT);
        due("length's higher byte", head(udp(), 2, 1), SHORT);
        due("right", udp(), 48);
    }

    private static void kinds() {
        due("MF", head(udp(), 6, 0x20, 0), KIND);
        due("offset 1", head(udp(), 6, 0, 1), KIND);
        due("greatest bit of the offset", head(udp(), 6, 0x10, 0), KIND);
        due("DF is no matter", head(udp(), 6, 0x40, 0), 48);
        due("nor the first bit", head(udp(), 6, 0x80, 0), 48);
        int[] others = {0, 2, 5, 7, 16, 18, 58, 255};
        for (int protocol : others) {
            due("protocol " + protocol, four(protocol, Packets.udp(53, 1024)), KIND);
        }
        byte[] segment = Packets.tcp(80, 1024, Packets.SYN);
        due("TCP of 19 bytes", four(6, java.util.Arrays.copyOf(segment, 19)), KIND);
        due("data offset 4", four(6, Packets.with(segment, 12, 0x4f)), KIND);
        due("data offset beyond", four(6, Packets.with(segment, 12, 0x60)), KIND);
        due("UDP of 7 bytes", four(17, Packets.bytes(0, 53, 4, 0, 0, 7, 0)), KIND);
        due("UDP length below", four(17, Packets.with(Packets.udp(53, 1024), 5, 7)), KIND);
        due("UDP length above", four(17, Packets.with(Packets.udp(53, 1024), 5, 9)), KIND);
        due("ICMP of 7 bytes", four(1, new byte[7]), KIND);
        int[] types = {1, 2, 4, 5, 9, 10, 12, 13, 128, 129, 255};
        for (int type : types) {
            due("ICMP type " + type, four(1, Packets.echo(type, 0, new byte[28])), KIND);
        }
    }

    private static void sums() {
        due("header bent", Packets.with(udp(), 5, 9), SUM);
        due("header sum 0", Packets.with(udp(), 10, 0, 0), SUM);
        due("UDP bent", Packets.with(udp(Packets.bytes(1)), 28, 2), SUM);
        due("UDP sum 0", Packets.with(udp(), 26, 0, 0), SUM);
        due("TCP bent", Packets.with(tcp(Packets.SYN), 25, 9), SUM);
        due("TCP from elsewhere", head(tcp(Packets.SYN), 15, 9), SUM);
        due("ICMP bent", Packets.with(four(1, Packets.echo(8, 0)), 27, 9), SUM);
        byte[] moved = head(four(1, Packets.echo(8, 0)), 15, 9);
        due("ICMP has the part alone", moved, 48);
        byte[] empty = four(1, Packets.with(Packets.echo(0, 0), 7, 0));
        Check.due("all of it 0", (empty[22] & 255) << 8 | empty[23] & 255, 65535);
        due("65535 for nothing", empty, 48);
        due("and not 0", Packets.with(empty, 22, 0, 0), SUM);
    }

    private static void times() {
        due("TTL 0", head(udp(), 8, 0), TIME);
        due("TTL 1", head(udp(), 8, 1), TIME);
        due("TTL 2", head(udp(), 8, 2), 48);
    }

    private static void places() {
        TransitGate bare = new TransitGate();
        bare.pool(POOL);
        Check.due("no prefix", Packets.outside(bare, udp()), PLACE);
        TransitGate poolless = new TransitGate();
        poolless.prefix(Packets.SITE, 0, 96);
        Check.due("no pool", Packets.outside(poolless, udp()), PLACE);
        due("not of the pool", Packets.four(FAR, POOL + 1, 17, Packets.udp(53, 1024)), PLACE);
        int[] odd = {0, 127, 224, 255};
        for (int first : odd) {
            int from = Packets.ip(first, 1, 1, 1);
            due("from " + first, Packets.four(from, POOL, 17, Packets.udp(53, 1024)), PLACE);
        }
        int[] even = {1, 126, 128, 223};
        for (int first : even) {
            int from = Packets.ip(first, 1, 1, 1);
            due("from " + first, Packets.four(from, POOL, 17, Packets.udp(53, 1024)), 48);
        }
        due("from the pool", Packets.four(POOL, POOL, 17, Packets.udp(53, 1024)), 48);
    }

    private static void tables() {
        due("UDP, no binding", four(17, Packets.udp(53, 1026)), TABLE);
        due("UDP, an inner port", four(17, Packets.udp(53, 5000)), TABLE);
        due("TCP, no binding", four(6, Packets.tcp(80, 1026, Packets.SYN)), TABLE);
        due("ICMP, no binding", four(1, Packets.echo(0, 1)), TABLE);
        due("TCP plain, of the session", tcp(Packets.ACK), 60);
        byte[] plain = Packets.four(FAR + 1, POOL, 6, Packets.tcp(80, 1024, Packets.ACK));
        due("TCP plain, from elsewhere", plain, TABLE);
        due("TCP plain, another port", four(6, Packets.tcp(81, 1024, Packets.ACK)), TABLE);
        due("TCP RST and SYN", four(6, Packets.tcp(81, 1024, Packets.SYN | Packets.RST)), TABLE);
        due("TCP SYN, another port", four(6, Packets.tcp(81, 1024, Packets.SYN)), 60);

        TransitGate gate = gate();
        Packets.outside(gate, four(17, Packets.udp(99, 1024)));
        Check.due("a session from outside", gate.count(1), 4);
        Check.due("its binding", gate.session(3, 0), 0);
        Check.due("its far address", gate.session(3, 1), FAR);
        Check.due("its far port", gate.session(3, 2), 99);
        Check.due("no binding is made", gate.count(0), 3);
        gate.pool(POOL + 1);
        byte[] beside = Packets.four(FAR, POOL + 1, 17, Packets.udp(53, 1024));
        Check.due("the other address has none", Packets.outside(gate, beside), TABLE);
    }

    private static void firstNumberThatFits() {
        byte[] part = Packets.with(Packets.tcp(80, 9, Packets.ACK), 12, 0x40);
        byte[] all = Packets.four(0, 9, 0, 0, 0x2000, 1, 6, part);
        due("short first", head(Packets.with(all, 10, 9), 0, 0x44), SHORT);
        due("header sum before kind", Packets.with(all, 10, 9), SUM);
        due("kind before the sum of the part", Packets.with(all, 25, 9), KIND);
        byte[] known = Packets.four(0, 9, 0, 0, 0, 1, 6, Packets.tcp(80, 9, Packets.ACK));
        due("sum before time", Packets.with(known, 25, 9), SUM);
        due("time before place", known, TIME);
        due("place before table", head(known, 8, 2), PLACE);
    }

    private static void headers() {
        int[][] cases = {{0, 2}, {255, 255}, {0xa5, 128}};
        for (int[] each : cases) {
            TransitGate gate = gate();
            byte[] part = Packets.udp(77, 1024, Packets.bytes(1, 2, 3));
            Packets.outside(gate, Packets.four(FAR, POOL, each[0], 9, 0, each[1], 17, part));
            byte[] want = Packets.six(Packets.SITE, FAR, Packets.HOME, 1, each[0], each[1] - 1, 17,
                    Packets.udp(77, 5000, Packets.bytes(1, 2, 3)));
            Check.same("service " + each[0], Packets.out(gate), want);
            Check.due("the identification is not touched", gate.count(16), 4);
        }
    }

    private static void echoTypes() {
        int[][] types = {{8, 128}, {0, 129}};
        for (int[] type : types) {
            TransitGate gate = gate();
            byte[] part = Packets.with(Packets.echo(type[0], 0, (byte) 5), 1, 3);
            Packets.outside(gate, Packets.four(FAR + 5, POOL, 1, part));
            byte[] turned = Packets.with(Packets.echo(type[1], 300, (byte) 5), 1, 3);
            byte[] want = Packets.six(
                    Packets.SITE, FAR + 5, Packets.HOME, 1, 0x2e, 63, 58, turned);
            Check.same("echo " + type[0], Packets.out(gate), want);
            Check.due("its far port", gate.session(3, 2), 0);
            Check.due("its far address", gate.session(3, 1), FAR + 5);
        }
    }

    private static void madeSums() {
        boolean met = false;
        for (int word = 0; word < 65536 && !met; word++) {
            byte[] data = Packets.bytes(word >> 8, word);
            byte[] made = Packets.six(Packets.SITE, FAR, Packets.HOME, 1, 0, 63, 17,
                    Packets.udp(53, 5000, data));
            if (made[46] == -1 && made[47] == -1) {
                met = true;
                TransitGate gate = gate();
                Packets.outside(gate, udp(data));
                Check.due("UDP made 65535", gate.word(11) & 65535, 65535);
            }
        }
        Check.due("UDP met", met, true);
    }

    private static void everyPrefix() {
        int[] lengths = {32, 40, 48, 56, 64, 96};
        for (int length : lengths) {
            TransitGate gate = new TransitGate();
            gate.prefix(0x20010db801220344L, 0x0500000000000000L, length);
            gate.pool(POOL);
            long high = gate.high(FAR);
            long low = gate.low(FAR);
            Packets.inside(gate, Packets.six(0xfd00000000000000L, 9, high, low, 0, 64, 17,
                    Packets.udp(5000, 53)));
            Packets.outside(gate, udp());
            byte[] want = Packets.six(high, low, 0xfd00000000000000L, 9, 0x2e, 63, 17,
                    Packets.udp(53, 5000));
            Check.same("from " + length, Packets.out(gate), want);
        }
    }

    private static void longest() {
        TransitGate gate = Packets.gate();
        Packets.inside(gate, Packets.six(1, FAR, 17, Packets.udp(5000, 53)));
        byte[] data = new byte[1572];
        java.util.Arrays.fill(data, (byte) 0xfe);
        Check.due("the longest", Packets.outside(gate, udp(data)), 1620);
        Check.due("its length", gate.count(5), 1620);
        Check.due("its last word", gate.word(404), 0xfefefefe);
        Check.due("nothing behind", gate.word(405), 0);
        byte[] want = Packets.six(Packets.SITE, FAR, Packets.HOME, 1, 0x2e, 63, 17,
                Packets.udp(53, 5000, data));
        int sum = (want[46] & 255) << 8 | want[47] & 255;
        Check.due("its checksum", gate.word(11) & 65535, sum);
    }
}
