/** Calls that bring a new gate to where a test begins; all need fewer than 420 calls. */
final class Scenes {
    static final int FAR = Packets.FAR;
    static final int POOL = Packets.POOL;

    private Scenes() {
    }

    static void fresh(TransitGate gate) {
    }

    /** The prefix 64:ff9b::/96 and one address of the pool. */
    static void open(TransitGate gate) {
        gate.prefix(Packets.SITE, 0, 96);
        gate.pool(POOL);
    }

    /**
     * Two addresses of the pool, a binding of each protocol from host 1 (UDP 5000 as 1024, TCP
     * 5001 as 1025, ICMP 300 as 0), each with a session to FAR, that of TCP in state 3; all five
     * ticks ago. OUT is a packet of 60 bytes.
     */
    static void busy(TransitGate gate) {
        open(gate);
        gate.pool(POOL + 1);
        udp(gate, 1, 5000, FAR);
        tcp(gate, 1, 5001, Packets.SYN);
        ping(gate, 1, 300, FAR);
        tcpBack(gate, FAR, 1025, Packets.SYN | Packets.ACK);
        gate.tick(5);
    }

    /** As busy, with forty bytes on the tape. */
    static void busyWithTape(TransitGate gate) {
        busy(gate);
        gate.feed(0x45000028, 0x01020304, 0x40119999, 0xC0A80001, 0x7F8081FF);
        gate.feed(0x13880035, 0x00080000, 0xFFFEFDFC, 0x55AA33CC, 0x00010080);
    }

    /** A binding of one INNER address for each port from 5000 on, with a session each. */
    static void bindings(TransitGate gate, int many) {
        open(gate);
        for (int i = 0; i < many; i++) {
            udp(gate, 1, 5000 + i, FAR);
        }
    }

    static void fullBindings(TransitGate gate) {
        bindings(gate, 64);
    }

    /** One binding (UDP, host 1, 5000 as 1024), and sessions with FAR, FAR + 1 and so on. */
    static void sessions(TransitGate gate, int many) {
        open(gate);
        udp(gate, 1, 5000, FAR);
        for (int i = 1; i < many; i++) {
            udpBack(gate, FAR + i, 1024);
        }
    }

    static void fullSessions(TransitGate gate) {
        sessions(gate, 128);
    }

    /** A packet of UDP went out of the pool's first address, port 1024. */
    static void oneOut(TransitGate gate) {
        open(gate);
        udp(gate, 1, 5000, FAR);
    }

    /** OUT has so many bytes, 48 .. 1620: made of a packet from outside that has 20 fewer. */
    static void outOf(TransitGate gate, int length) {
        oneOut(gate);
        byte[] data = new byte[length - 48];
        for (int i = 0; i < data.length; i++) {
            data[i] = (byte) (i * 7 + 1);
        }
        byte[] packet = Packets.four(FAR, POOL, Packets.UDP, Packets.udp(53, 1024, data));
        Packets.outside(gate, packet);
    }

    static int udp(TransitGate gate, int host, int port, int far) {
        byte[] part = Packets.udp(port, 53);
        return Packets.inside(gate, Packets.six(host, far, Packets.UDP, part));
    }

    static int udpBack(TransitGate gate, int far, int port) {
        byte[] part = Packets.udp(53, port);
        return Packets.outside(gate, Packets.four(far, POOL, Packets.UDP, part));
    }

    static int ping(TransitGate gate, int host, int identifier, int far) {
        byte[] part = Packets.echo(128, identifier);
        return Packets.inside(gate, Packets.six(host, far, Packets.ICMP6, part));
    }

    static int pingBack(TransitGate gate, int far, int identifier) {
        byte[] part = Packets.echo(0, identifier);
        return Packets.outside(gate, Packets.four(far, POOL, Packets.ICMP, part));
    }

    static int tcp(TransitGate gate, int host, int port, int flags) {
        byte[] part = Packets.tcp(port, 80, flags);
        return Packets.inside(gate, Packets.six(host, FAR, Packets.TCP, part));
    }

    static int tcpBack(TransitGate gate, int far, int port, int flags) {
        byte[] part = Packets.tcp(80, port, flags);
        return Packets.outside(gate, Packets.four(far, POOL, Packets.TCP, part));
    }
}
