import java.io.ByteArrayOutputStream;
import java.nio.ByteBuffer;

/** Builds packets with right checksums, by ways of their own, and hands them to a gate. */
final class Packets {
    static final int TCP = 6;
    static final int UDP = 17;
    static final int ICMP = 1;
    static final int ICMP6 = 58;

    static final int FIN = 1;
    static final int SYN = 2;
    static final int RST = 4;
    static final int ACK = 16;

    static final long SITE = 0x0064ff9b00000000L;
    static final long HOME = 0x20010db800000000L;
    static final int POOL = ip(10, 0, 0, 1);
    static final int FAR = ip(8, 8, 8, 8);

    private Packets() {
    }

    /** A gate with the prefix 64:ff9b::/96 and one address in its pool. */
    static TransitGate gate() {
        TransitGate gate = new TransitGate();
        gate.prefix(SITE, 0, 96);
        gate.pool(POOL);
        return gate;
    }

    static int ip(int a, int b, int c, int d) {
        return a << 24 | b << 16 | c << 8 | d;
    }

    static byte[] bytes(int... values) {
        byte[] all = new byte[values.length];
        for (int i = 0; i < values.length; i++) {
            all[i] = (byte) values[i];
        }
        return all;
    }

    static byte[] join(byte[]... parts) {
        ByteArrayOutputStream all = new ByteArrayOutputStream();
        for (byte[] part : parts) {
            all.write(part, 0, part.length);
        }
        return all.toByteArray();
    }

    static byte[] unhex(String text) {
        String digits = text.replace(" ", "");
        byte[] all = new byte[digits.length() / 2];
        for (int i = 0; i < all.length; i++) {
            all[i] = (byte) Integer.parseInt(digits.substring(2 * i, 2 * i + 2), 16);
        }
        return all;
    }

    static String hex(byte[] all) {
        StringBuilder text = new StringBuilder();
        for (byte each : all) {
            text.append(String.format("%02x", each));
        }
        return text.toString();
    }

    static byte[] udp(int source, int target, byte... data) {
        ByteBuffer part = ByteBuffer.allocate(8 + data.length);
        part.putShort((short) source).putShort((short) target);
        part.putShort((short) (8 + data.length)).putShort((short) 0).put(data);
        return part.array();
    }

    static byte[] tcp(int source, int target, int flags, byte... data) {
        ByteBuffer part = ByteBuffer.allocate(20 + data.length);
        part.putShort((short) source).putShort((short) target).putInt(1000).putInt(2000);
        part.put((byte) 0x50).put((byte) flags).putShort((short) 512).putInt(0).put(data);
        return part.array();
    }

    static byte[] echo(int type, int identifier, byte... data) {
        ByteBuffer part = ByteBuffer.allocate(8 + data.length);
        part.put((byte) type).put((byte) 0).putShort((short) 0);
        part.putShort((short) identifier).putShort((short) 7).put(data);
        return part.array();
    }

    /** An ICMP error of IPv4 with the number in its last two bytes ahead of the packet within. */
    static byte[] error(int type, int code, int number, byte[] within) {
        ByteBuffer part = ByteBuffer.allocate(8 + within.length);
        part.put((byte) type).put((byte) code).putShort((short) 0);
        part.putShort((short) 0x1234).putShort((short) number).put(within);
        return part.array();
    }

    /** From inside, by an address of the home net to one behind 64:ff9b::/96. */
    static byte[] six(int host, int far, int protocol, byte[] part) {
        return six(HOME, host, SITE, far & 0xFFFFFFFFL, 0x1f, 64, protocol, part);
    }

    static byte[] six(
            long fromHigh, long fromLow, long toHigh, long toLow,
            int traffic, int hops, int next, byte[] part) {
        ByteBuffer packet = ByteBuffer.allocate(40 + part.length);
        packet.putInt(6 << 28 | traffic << 20);
        packet.putShort((short) part.length).put((byte) next).put((byte) hops);
        packet.putLong(fromHigh).putLong(fromLow).putLong(toHigh).putLong(toLow).put(part);
        return signed(packet.array(), 40);
    }

    /** From outside, with a TTL of 64, an identification of 7 and DF set. */
    static byte[] four(int from, int to, int protocol, byte[] part) {
        return four(from, to, 0x2e, 7, 0x4000, 64, protocol, part);
    }

    static byte[] four(
            int from, int to, int service, int identification, int flags, int ttl,
            int protocol, byte[] part) {
        ByteBuffer packet = ByteBuffer.allocate(20 + part.length);
        packet.put((byte) 0x45).put((byte) service).putShort((short) (20 + part.length));
        packet.putShort((short) identification).putShort((short) flags);
        packet.put((byte) ttl).put((byte) protocol).putShort((short) 0);
        packet.putInt(from).putInt(to).put(part);
        return headSigned(signed(packet.array(), 20));
    }

    static byte[] headSigned(byte[] packet) {
        ByteBuffer.wrap(packet).putShort(10, (short) 0);
        int sum = complement(java.util.Arrays.copyOf(packet, 20));
        ByteBuffer.wrap(packet).putShort(10, (short) sum);
        return packet;
    }

    /** The packet with the checksum of its part put right, if the part has room for it. */
    static byte[] signed(byte[] packet, int head) {
        int protocol = packet[head == 40 ? 6 : 9] & 255;
        int at = head + (protocol == TCP ? 16 : protocol == UDP ? 6 : 2);
        if (at + 2 > packet.length) {
            return packet;
        }
        ByteBuffer.wrap(packet).putShort(at, (short) 0);
        int sum = partSum(packet, head, protocol);
        ByteBuffer.wrap(packet).putShort(at, (short) sum);
        return packet;
    }

    static int partSum(byte[] packet, int head, int protocol) {
        int length = packet.length - head;
        byte[] part = java.util.Arrays.copyOfRange(packet, head, packet.length);
        if (head == 40 || protocol != ICMP) {
            byte[] ends = java.util.Arrays.copyOfRange(packet, head == 40 ? 8 : 12, head);
            part = join(ends, bytes(length >> 8, length, 0, protocol), part);
        }
        int sum = complement(part);
        return protocol == UDP && sum == 0 ? 65535 : sum;
    }

    private static int complement(byte[] all) {
        int sum = 0;
        for (int i = 0; i < all.length; i += 2) {
            int second = i + 1 < all.length ? all[i + 1] & 255 : 0;
            sum += (all[i] & 255) * 256 + second;
            if (sum > 65535) {
                sum -= 65535;
            }
        }
        return 65535 - sum;
    }

    static byte[] with(byte[] packet, int at, int... values) {
        byte[] changed = packet.clone();
        for (int i = 0; i < values.length; i++) {
            changed[at + i] = (byte) values[i];
        }
        return changed;
    }

    static void load(TransitGate gate, byte[] packet) {
        byte[] padded = java.util.Arrays.copyOf(packet, (packet.length + 19) / 20 * 20);
        ByteBuffer all = ByteBuffer.wrap(padded);
        for (int i = 0; i < padded.length; i += 20) {
            gate.feed(all.getInt(), all.getInt(), all.getInt(), all.getInt(), all.getInt());
        }
    }

    static int inside(TransitGate gate, byte[] packet) {
        load(gate, packet);
        return gate.inside(packet.length);
    }

    static int outside(TransitGate gate, byte[] packet) {
        load(gate, packet);
        return gate.outside(packet.length);
    }

    /** The packet that was made last, as the gate's words tell it. */
    static byte[] out(TransitGate gate) {
        int length = gate.count(5);
        ByteBuffer all = ByteBuffer.allocate((length + 3) / 4 * 4);
        for (int i = 0; i < all.capacity() / 4; i++) {
            all.putInt(gate.word(i));
        }
        return java.util.Arrays.copyOf(all.array(), length);
    }
}
