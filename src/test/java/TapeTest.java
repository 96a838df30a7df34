/** Promises 7 and 10 to 14: feed, word, take, bend, sign, signHead. */
public final class TapeTest {
    public static void main(String[] args) {
        feeding();
        words();
        taking();
        takingWhatIsTooLong();
        bending();
        signing();
        signingEdges();
        signingOddPlaces();
        signingHeads();
        Check.end();
    }

    private static void feeding() {
        TransitGate gate = new TransitGate();
        Check.due("feed", gate.feed(0x01020304, 0x85060708, 0x090a0b0c, 0x0d0e0f10, 0x111213ff), true);
        for (int i = 0; i < 19; i++) {
            Check.due("byte " + i, gate.bend(i, 0), i == 4 ? 0x85 : i + 1);
        }
        Check.due("byte 19", gate.bend(19, 0), 255);
        for (int i = 1; i < 80; i++) {
            Check.due("feed " + i, gate.feed(i, 0, 0, 0, i), true);
        }
        Check.due("full", gate.count(4), 1600);
        Check.due("no room", gate.feed(1, 2, 3, 4, 5), false);
        Check.due("none came", gate.count(4), 1600);
        Check.due("last byte", gate.bend(1599, 0), 79);
    }

    private static void words() {
        TransitGate gate = Packets.gate();
        byte[] part = Packets.udp(5000, 53, Packets.bytes(1, 2, 3));
        int many = Packets.inside(gate, Packets.six(1, Packets.FAR, Packets.UDP, part));
        Check.due("out", many, 31);
        Check.due("word 0", gate.word(0), 0x451f001f);
        Check.due("word 3", gate.word(3), Packets.POOL);
        Check.due("word 4", gate.word(4), Packets.FAR);
        Check.due("the last, filled with 0", gate.word(7), 0x01020300);
        Check.due("beyond", gate.word(8), 0);
        Check.due("below", gate.word(-1), 0);
        Check.due("least", gate.word(Integer.MIN_VALUE), 0);
        Check.due("greatest", gate.word(Integer.MAX_VALUE), 0);
        Check.due("4 i runs over", gate.word(1 << 30), 0);
        part = Packets.udp(5000, 53);
        Packets.inside(gate, Packets.six(1, Packets.FAR, Packets.UDP, part));
        Check.due("beyond a shorter one", gate.word(7), 0);
    }

    private static void taking() {
        TransitGate gate = Packets.gate();
        byte[] part = Packets.udp(5000, 53, Packets.bytes(9));
        Packets.inside(gate, Packets.six(1, Packets.FAR, Packets.UDP, part));
        gate.feed(1, 2, 3, 4, 5);
        gate.feed(1, 2, 3, 4, 5);
        Check.due("take", gate.take(), 29);
        Check.due("in place of what it had", gate.count(4), 29);
        Check.due("out stays", gate.count(5), 29);
        Check.due("its first byte", gate.bend(0, 0), 0x45);
        Check.due("its last byte", gate.bend(28, 0), 9);
        Check.due("no byte behind", gate.bend(29, 0), -1);
        gate.bend(28, 1);
        Check.due("out is another row", gate.word(7), 9 << 24);

        TransitGate fresh = new TransitGate();
        fresh.feed(1, 2, 3, 4, 5);
        Check.due("take nothing", fresh.take(), 0);
        Check.due("the tape is empty", fresh.count(4), 0);
    }

    private static void takingWhatIsTooLong() {
        int[] lengths = {1580, 1581};
        for (int length : lengths) {
            TransitGate gate = Packets.gate();
            byte[] part = Packets.udp(5000, 53);
            Packets.inside(gate, Packets.six(1, Packets.FAR, Packets.UDP, part));
            byte[] back = Packets.udp(53, 1024, new byte[length - 28]);
            int many = Packets.outside(gate, Packets.four(Packets.FAR, Packets.POOL, 17, back));
            Check.due("a long one", many, length + 20);
            gate.feed(7, 0, 0, 0, 0);
            Check.due("take " + many, gate.take(), many > 1600 ? -1 : many);
            Check.due("tape of " + many, gate.count(4), many > 1600 ? 20 : many);
            Check.due("byte of " + many, gate.bend(3, 0), many > 1600 ? 7 : 0);
        }
    }

    private static void bending() {
        TransitGate gate = new TransitGate();
        gate.feed(0x80ff0000, 0, 0, 0, 0x55);
        Check.due("bend 0", gate.bend(0, 0x181), 0x80);
        Check.due("lowest byte alone", gate.bend(0, 0), 1);
        Check.due("the next is as it was", gate.bend(1, 0), 255);
        Check.due("bend the last", gate.bend(19, -1), 0x55);
        Check.due("the last bent", gate.bend(19, 0), 0xAA);
        Check.due("behind", gate.bend(20, 1), -1);
        Check.due("below", gate.bend(-1, 1), -1);
        Check.due("least", gate.bend(Integer.MIN_VALUE, 1), -1);
        Check.due("greatest", gate.bend(Integer.MAX_VALUE, 1), -1);
    }

    private static void signDue(String what, byte[] packet, int head, int at, int protocol) {
        TransitGate gate = new TransitGate();
        Packets.load(gate, Packets.with(packet, at, 0x77, 0x99));
        int want = Packets.partSum(Packets.with(packet, at, 0, 0), head, protocol);
        Check.due(what, gate.sign(packet.length, at), want);
        Check.due(what + ", higher byte", gate.bend(at, 0), want >> 8);
        Check.due(what + ", lower byte", gate.bend(at + 1, 0), want & 255);
        Check.due(what + ", byte ahead", gate.bend(at - 1, 0), packet[at - 1] & 255);
        Check.due(what + ", the tape stays", gate.count(4), (packet.length + 19) / 20 * 20);
    }

    private static void signing() {
        byte[] data = Packets.bytes(1, 2, 3);
        byte[] six = Packets.six(1, Packets.FAR, Packets.UDP, Packets.udp(5000, 53, data));
        signDue("UDP in IPv6", six, 40, 46, 17);
        signDue("TCP in IPv6", Packets.with(six, 6, 6), 40, 46, 6);
        signDue("ICMPv6", Packets.with(six, 6, 58), 40, 46, 58);
        signDue("ICMP in IPv6", Packets.with(six, 6, 1), 40, 46, 1);
        byte[] four = Packets.four(Packets.FAR, Packets.POOL, 17, Packets.udp(53, 1024, data));
        signDue("UDP in IPv4", four, 20, 26, 17);
        signDue("TCP in IPv4", Packets.with(four, 9, 6), 20, 26, 6);
        signDue("ICMP in IPv4", Packets.with(four, 9, 1), 20, 26, 1);
        signDue("ICMPv6 in IPv4", Packets.with(four, 9, 58), 20, 26, 58);
        signDue("another one in IPv4", Packets.with(four, 9, 200), 20, 26, 200);

        TransitGate gate = new TransitGate();
        gate.feed(0x45000000, 0, 0x00110000, 0, 0);
        gate.feed(0xFFE10000, 0, 0, 0, 0);
        // 0xFFE1, 13 (the length) and 17 add up to 65535, whose complement is 0.
        Check.due("UDP is never 0", gate.sign(33, 22), 65535);
        gate.bend(9, 17 ^ 1);
        gate.bend(20, 0xFF);
        gate.bend(21, 0xE1);
        Check.due("all is 0", gate.sign(33, 22), 65535);
        gate.bend(20, 0xFF);
        gate.bend(21, 0xFF);
        Check.due("ICMP may be 0", gate.sign(33, 22), 0);
        gate.bend(24, 0xFF);
        gate.bend(25, 0xFF);
        gate.bend(27, 1);
        // 0xFFFF, 0xFFFF and 1: the first carry makes another one.
        Check.due("carries are added again", gate.sign(33, 22), 65534);
    }

    private static void signingEdges() {
        TransitGate gate = new TransitGate();
        Check.due("nothing to sign", gate.sign(20, 20), -1);
        gate.feed(0x45000000, 0, 0x00110000, 0, 0);
        gate.feed(0x01020304, 0, 0, 0, 0);
        Check.due("no part", gate.sign(20, 20), -1);
        Check.due("one byte", gate.sign(21, 20), -1);
        Check.due("in the header", gate.sign(40, 19), -1);
        Check.due("more than the tape has", gate.sign(41, 22), -1);
        Check.due("below 20", gate.sign(19, 22), -1);
        Check.due("at the end", gate.sign(40, 39), -1);
        Check.due("behind the end", gate.sign(30, 30), -1);
        Check.due("least", gate.sign(Integer.MIN_VALUE, Integer.MIN_VALUE), -1);
        Check.due("greatest", gate.sign(Integer.MAX_VALUE, Integer.MAX_VALUE), -1);
        Check.due("greatest place", gate.sign(40, Integer.MAX_VALUE), -1);
        Check.due("nothing happened", gate.bend(20, 0) << 8 | gate.bend(21, 0), 0x0102);
        Check.due("two bytes", gate.sign(22, 20), 65535 - 17 - 2);
        Check.due("the last two", gate.sign(40, 38) >= 0 ? 1 : 0, 1);

        gate.bend(0, 0x20);
        Check.due("IPv6, no part", gate.sign(40, 40), -1);
        gate.feed(0, 0, 0, 0, 0);
        Check.due("IPv6, in the header", gate.sign(60, 39), -1);
        Check.due("IPv6, below 40", gate.sign(39, 20), -1);
        Check.due("IPv6, the first two", gate.sign(42, 40) >= 0 ? 1 : 0, 1);
        gate.bend(0, 0x10);
        Check.due("version 7", gate.sign(60, 50), -1);
        gate.bend(0, 0x20);
        Check.due("version 5", gate.sign(60, 50), -1);
    }

    private static void signingOddPlaces() {
        TransitGate gate = new TransitGate();
        gate.feed(0x45000000, 0, 0x00010000, 0, 0);
        gate.feed(0x11223344, 0x55667788, 0, 0, 0);
        // The words with bytes 21 and 22 as 0: 1100, 0044, 5566, 7788.
        Check.due("an odd place", gate.sign(28, 21), 65535 - (0x1100 + 0x44 + 0x5566 + 0x7788));
        Check.due("higher byte there", gate.bend(21, 0), 0x21);
        Check.due("lower byte there", gate.bend(22, 0), 0xCD);
    }

    private static void signingHeads() {
        TransitGate gate = new TransitGate();
        Check.due("no header", gate.signHead(), -1);
        // The example that is told everywhere: 4500 0073 0000 4000 4011 b861 c0a8 0001 c0a8 00c7.
        gate.feed(0x45000073, 0x00004000, 0x40119999, 0xc0a80001, 0xc0a800c7);
        Check.due("signHead", gate.signHead(), 0xb861);
        Check.due("byte 10", gate.bend(10, 0), 0xb8);
        Check.due("byte 11", gate.bend(11, 0), 0x61);
        gate.feed(1, 1, 1, 1, 1);
        Check.due("twenty bytes alone", gate.signHead(), 0xb861);
        gate.bend(0, 3);
        Check.due("six words told, twenty bytes summed", gate.signHead(), 0xb761);

        TransitGate brief = Packets.gate();
        byte[] part = Packets.udp(5000, 53);
        Packets.inside(brief, Packets.six(1, Packets.FAR, Packets.UDP, part));
        brief.take();
        Check.due("a taken one", brief.signHead() == (brief.word(2) & 65535) ? 1 : 0, 1);
    }
}
