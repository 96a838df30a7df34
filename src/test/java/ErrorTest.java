/** Promise 9: errors from outside, turned with the packet within. */
public final class ErrorTest {
    private static final int KIND = -11;
    private static final int SUM = -12;
    private static final int TIME = -13;
    private static final int PLACE = -14;
    private static final int TABLE = -15;
    private static final int FAR = Packets.FAR;
    private static final int POOL = Packets.POOL;
    private static final int ROUTER = Packets.ip(5, 5, 5, 5);
    private static final int OTHER_POOL = Packets.ip(10, 0, 0, 2);

    public static void main(String[] args) {
        toldPackets();
        codes();
        greatestPackets();
        kinds();
        places();
        tables();
        sumAndTime();
        nothingIsTouched();
        within();
        cutting();
        nothingIsLeftOfTheLastPacket();
        Check.end();
    }

    /** A gate with a binding of each protocol (UDP 1024, TCP 1025, ICMP 0) and two addresses. */
    private static TransitGate gate() {
        TransitGate gate = Packets.gate();
        Packets.inside(gate, Packets.six(1, FAR, 17, Packets.udp(5000, 53)));
        Packets.inside(gate, Packets.six(1, FAR, 6, Packets.tcp(5001, 80, Packets.SYN)));
        Packets.inside(gate, Packets.six(1, FAR, 58, Packets.echo(128, 300)));
        gate.pool(OTHER_POOL);
        return gate;
    }

    private static byte[] udpWithin() {
        return Packets.four(POOL, FAR, 0x55, 3, 0, 9, 17, Packets.udp(1024, 53));
    }

    private static byte[] error(int type, int code, byte[] within) {
        return Packets.four(ROUTER, POOL, 1, Packets.error(type, code, 0, within));
    }

    private static void due(String what, byte[] packet, int want) {
        TransitGate gate = gate();
        Check.due(what, Packets.outside(gate, packet), want);
        Check.due(what + ": out", gate.count(5), want > 0 ? want : 28);
        Check.due(what + ": made", gate.count(7), want > 0 ? 4 : 3);
        if (want < 0) {
            Check.due(what + ": counted", gate.count(-want), 1);
        }
    }

    private static void told(TransitGate gate, String what, String packet, String out) {
        byte[] want = Packets.unhex(out);
        Check.due(what, Packets.outside(gate, Packets.unhex(packet)), want.length);
        Check.same(what, Packets.out(gate), want);
    }

    private static void toldPackets() {
        TransitGate gate = Packets.gate();
        Packets.inside(gate, Packets.six(1, FAR, 17, Packets.udp(5000, 53)));
        Packets.inside(gate, Packets.six(1, FAR, 58, Packets.echo(128, 77)));
        told(gate, "too big",
                "452e003b0007400040012683050505050a000001 030411b100000578"
                        + "451f001f000100003f11619e0a00000108080808 04000035000bdd90 010203",
                "62e00000003b3a3f 0064ff9b000000000000000005050505 20010db8000000000000000000000001"
                        + "020019db0000058c"
                        + "61f00000000b113f 20010db8000000000000000000000001"
                        + "0064ff9b000000000000000008080808 13880035000bdd90 010203");
        told(gate, "too late",
                "452e003c0007400040012682050505050a000001 0b00f4ff00000000"
                        + "451f0020000300003f0161ab0a00000108080808 0800f3f200000007 01020304",
                "62e00000003c3a3f 0064ff9b000000000000000005050505 20010db8000000000000000000000001"
                        + "0300727200000000"
                        + "61f00000000c3a3f 20010db8000000000000000000000001"
                        + "0064ff9b000000000000000008080808 8000f3f2004d0007 01020304");
    }

    private static void codeDue(int type, int code, int type6, int code6) {
        TransitGate gate = gate();
        String what = "type " + type + ", code " + code;
        int many = Packets.outside(gate, error(type, code, udpWithin()));
        if (type6 < 0) {
            Check.due(what, many, KIND);
            return;
        }
        Check.due(what, many, 96);
        Check.due(what + ": turned", gate.word(10) >>> 16, type6 << 8 | code6);
        Check.due(what + ": four bytes", gate.word(11), type6 == 2 ? 1280 : 0);
    }

    private static void codes() {
        int[] of3 = {0, 0, -1, 4, 0, 0, 0, 0, 0, 1, 1, 0, 0, 1, -1, 1, -1, -1};
        for (int code = 0; code < of3.length; code++) {
            int type6 = of3[code] < 0 ? -1 : code == 4 ? 2 : 1;
            codeDue(3, code, type6, of3[code]);
        }
        codeDue(3, 255, -1, -1);
        codeDue(11, 0, 3, 0);
        codeDue(11, 1, 3, 1);
        codeDue(11, 2, -1, -1);
        codeDue(11, 255, -1, -1);
    }

    private static void greatestPackets() {
        int[][] numbers = {
            {0, 1280}, {1259, 1280}, {1260, 1280}, {1261, 1281}, {1500, 1520},
            {65515, 65535}, {65516, 65536}, {65535, 65555}
        };
        for (int[] each : numbers) {
            TransitGate gate = gate();
            byte[] part = Packets.error(3, 4, each[0], udpWithin());
            Packets.outside(gate, Packets.four(ROUTER, POOL, 1, part));
            Check.due("greatest packet " + each[0], gate.word(11), each[1]);
        }
        TransitGate gate = gate();
        byte[] part = Packets.error(3, 3, 1500, udpWithin());
        Packets.outside(gate, Packets.four(ROUTER, POOL, 1, part));
        Check.due("of no other code", gate.word(11), 0);
    }

    private static void kinds() {
        byte[] within = udpWithin();
        due("28 bytes within", error(3, 1, within), 96);
        due("27 bytes within", error(3, 1, java.util.Arrays.copyOf(within, 27)), KIND);
        due("none within", error(3, 1, new byte[0]), KIND);
        due("version 6 within", error(3, 1, Packets.with(within, 0, 0x65)), KIND);
        due("four words within", error(3, 1, Packets.with(within, 0, 0x44)), KIND);
        due("six words within", error(3, 1, Packets.with(within, 0, 0x46)), KIND);
        int[] others = {0, 2, 5, 7, 16, 18, 58, 255};
        for (int protocol : others) {
            due("protocol within " + protocol, error(3, 1, Packets.with(within, 9, protocol)), KIND);
        }
        byte[] ping = Packets.four(POOL, FAR, 1, Packets.echo(8, 0));
        due("ICMP within", error(3, 1, ping), 96);
        int[] types = {0, 3, 9, 11, 128};
        for (int type : types) {
            due("ICMP type within " + type, error(3, 1, Packets.with(ping, 20, type)), KIND);
        }
        due("its sums are no matter", error(11, 1, Packets.with(within, 10, 1, 2)), 96);
        due("nor its fragment", error(11, 1, Packets.with(within, 6, 0x3f, 0xff)), 96);
        due("nor its TTL", error(11, 1, Packets.with(within, 8, 0)), 96);
        due("nor its length", error(11, 1, Packets.with(within, 2, 0, 0)), 96);
    }

    private static void places() {
        byte[] within = udpWithin();
        byte[] part = Packets.error(3, 1, 0, within);
        due("not to the pool", Packets.four(ROUTER, FAR, 1, part), PLACE);
        due("from an odd one", Packets.four(Packets.ip(127, 0, 0, 1), POOL, 1, part), PLACE);
        due("within not from the pool", error(3, 1, Packets.with(within, 15, 9)), PLACE);
        int[] odd = {0, 127, 224, 255};
        for (int first : odd) {
            due("within to " + first, error(3, 1, Packets.with(within, 16, first)), PLACE);
        }
        due("within to 223", error(3, 1, Packets.with(within, 16, 223)), 96);
        due("to the pool's other one", Packets.four(ROUTER, OTHER_POOL, 1, part), 96);
        TransitGate bare = new TransitGate();
        bare.pool(POOL);
        Check.due("no prefix", Packets.outside(bare, error(3, 1, within)), PLACE);
    }

    private static void tables() {
        byte[] within = udpWithin();
        due("another port", error(3, 1, Packets.with(within, 20, 4, 2)), TABLE);
        due("another protocol", error(3, 1, Packets.with(within, 9, 6)), TABLE);
        due("another address", error(3, 1, Packets.with(within, 15, 2)), TABLE);
        byte[] segment = Packets.four(POOL, FAR, 6, Packets.tcp(1025, 80, Packets.ACK));
        due("TCP without a word of its session", error(3, 1, segment), 108);
        byte[] ping = Packets.four(POOL, FAR, 1, Packets.echo(8, 1));
        due("another identifier", error(3, 1, ping), TABLE);
        byte[] elsewhere = Packets.four(POOL, FAR + 9, 17, Packets.udp(1024, 99));
        due("no session is asked for", error(3, 1, elsewhere), 96);
    }

    private static void sumAndTime() {
        byte[] packet = error(3, 1, udpWithin());
        due("bent within", Packets.with(packet, 55, 1), SUM);
        due("kind before sum", Packets.with(packet, 21, 2), KIND);
        due("TTL 1", Packets.headSigned(Packets.with(packet, 8, 1)), TIME);
        due("TTL 2", Packets.headSigned(Packets.with(packet, 8, 2)), 96);
    }

    private static void nothingIsTouched() {
        TransitGate gate = gate();
        gate.tick(40);
        byte[] elsewhere = Packets.four(POOL, FAR + 9, 17, Packets.udp(1024, 99));
        Packets.outside(gate, error(3, 1, udpWithin()));
        Packets.outside(gate, error(3, 1, elsewhere));
        byte[] reset = Packets.four(POOL, FAR, 6, Packets.tcp(1025, 80, Packets.SYN));
        Packets.outside(gate, error(3, 1, reset));
        byte[] ping = Packets.four(POOL, FAR, 1, Packets.echo(8, 0));
        Packets.outside(gate, error(3, 1, ping));
        Check.due("all were made", gate.count(7), 7);
        Check.due("sessions", gate.count(1), 3);
        Check.due("bindings", gate.count(0), 3);
        Check.due("UDP's end", gate.session(0, 4), 260);
        Check.due("TCP's end", gate.session(1, 4), 200);
        Check.due("TCP's state", gate.session(1, 3), 1);
        Check.due("ICMP's end", gate.session(2, 4), 20);
        Check.due("identification", gate.count(16), 4);
    }

    /** What must come of an error about a packet within, by a way of its own. */
    private static byte[] turned(int type, int code, byte[] within, byte[] part, int cut) {
        int length = ((within[2] & 255) << 8 | within[3] & 255) - 20;
        int protocol = within[9] == 1 ? 58 : within[9];
        byte[] head = Packets.six(Packets.HOME, 1, Packets.SITE, FAR, within[1] & 255,
                within[8] & 255, protocol, new byte[0]);
        head = Packets.with(head, 4, length >> 8, length);
        byte[] all = Packets.join(Packets.bytes(type, code, 0, 0, 0, 0, 0, 0), head, part);
        byte[] kept = java.util.Arrays.copyOf(all, Math.min(all.length, cut));
        return Packets.six(Packets.SITE, ROUTER, Packets.HOME, 1, 0x2e, 63, 58, kept);
    }

    private static void within() {
        byte[] segment = Packets.tcp(1025, 80, Packets.ACK, Packets.bytes(1, 2, 3));
        byte[] tcp = Packets.four(POOL, FAR, 0xab, 3, 0, 1, 6, segment);
        TransitGate gate = gate();
        Packets.outside(gate, error(3, 3, tcp));
        byte[] part = java.util.Arrays.copyOfRange(tcp, 20, tcp.length);
        byte[] want = turned(1, 4, tcp, Packets.with(part, 0, 5001 >> 8, 5001 & 255), 1240);
        Check.same("TCP within", Packets.out(gate), want);

        int[][] lengths = {{0, 0}, {0, 19}, {0, 20}, {255, 255}};
        for (int[] length : lengths) {
            byte[] udp = Packets.with(udpWithin(), 2, length);
            gate = gate();
            Packets.outside(gate, error(11, 1, udp));
            part = java.util.Arrays.copyOfRange(udp, 20, udp.length);
            want = turned(3, 1, udp, Packets.with(part, 0, 5000 >> 8, 5000 & 255), 1240);
            Check.same("length within " + length[1], Packets.out(gate), want);
        }
    }

    private static void nothingIsLeftOfTheLastPacket() {
        int[][] cases = {{3, 1, 1, 0}, {11, 1, 3, 1}};
        for (int[] each : cases) {
            TransitGate gate = gate();
            byte[] data = new byte[600];
            java.util.Arrays.fill(data, (byte) 0xff);
            byte[] before = Packets.six(1, FAR, 17, Packets.udp(5000, 53, data));
            Check.due("a packet ahead", Packets.inside(gate, before), 628);
            byte[] udp = udpWithin();
            Packets.outside(gate, error(each[0], each[1], udp));
            byte[] part = java.util.Arrays.copyOfRange(udp, 20, udp.length);
            part = Packets.with(part, 0, 5000 >> 8, 5000 & 255);
            byte[] want = turned(each[2], each[3], udp, part, 1240);
            Check.same("behind a packet of ones", Packets.out(gate), want);
        }
    }

    private static void cutting() {
        // An error of n bytes makes n + 40.
        int[] lengths = {1239, 1240, 1241, 1600};
        for (int length : lengths) {
            byte[] data = new byte[length - 56];
            java.util.Arrays.fill(data, (byte) 0xc3);
            byte[] udp = Packets.four(POOL, FAR, 0, 3, 0, 0, 17, Packets.udp(1024, 53, data));
            TransitGate gate = gate();
            int many = Packets.outside(gate, error(3, 1, udp));
            Check.due("cut of " + length, many, Math.min(length + 40, 1280));
            byte[] part = java.util.Arrays.copyOfRange(udp, 20, udp.length);
            byte[] want = turned(1, 0, udp, Packets.with(part, 0, 5000 >> 8, 5000 & 255), 1240);
            Check.same("cut of " + length, Packets.out(gate), want);
        }
    }
}
