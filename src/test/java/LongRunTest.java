/**
 * The last of the 512 calls that are promised, and two bounds that the document names but 512
 * calls cannot reach. What an object answers later is free; that this one still keeps the
 * sentences shows that they are built.
 */
public final class LongRunTest {
    private static final int LAST_IDENTIFICATION = 65535;
    private static final int LAST_TIME = 2147483647;
    private static final int MOST_TICKS = 10000;

    public static void main(String[] args) {
        lastPromisedCall();
        identificationsGoRound();
        timeIsToldUpToItsMost();
        Check.end();
    }

    private static byte[] udp(int bytes) {
        return Packets.six(1, Packets.FAR, 17, Packets.udp(5000, 53, new byte[bytes]));
    }

    /** What it is: "An object is used for at most 512 calls after it has been made". */
    private static void lastPromisedCall() {
        TransitGate gate = Packets.gate();
        for (int i = 0; i < 127; i++) {
            Scenes.udp(gate, 1, 5000, Packets.FAR);
        }
        // Two calls made the gate ready, each packet took four.
        Check.due("the 511th call", gate.count(7), 127);
        Check.due("the 512th call", gate.count(16), 128);
        TransitGate ticking = new TransitGate();
        for (int i = 1; i < 512; i++) {
            ticking.tick(MOST_TICKS);
        }
        Check.due("the longest time", ticking.count(6), 511 * MOST_TICKS);
    }

    /** Terms: "a count from 1 on (65535 is followed by 1)". */
    private static void identificationsGoRound() {
        TransitGate gate = Packets.gate();
        byte[] packet = udp(0);
        for (int i = 1; i < LAST_IDENTIFICATION; i++) {
            Packets.inside(gate, packet);
            if ((gate.word(1) >>> 16) != i) {
                Check.due("identification", gate.word(1) >>> 16, i);
            }
        }
        Check.due("the next is the last", gate.count(16), LAST_IDENTIFICATION);
        Packets.inside(gate, udp(1233));
        Check.due("a long packet has 0 and DF", gate.word(1), 0x4000);
        Check.due("and takes none", gate.count(16), LAST_IDENTIFICATION);
        Packets.inside(gate, packet);
        Check.due("the last", gate.word(1), LAST_IDENTIFICATION << 16);
        Check.due("1 follows", gate.count(16), 1);
        Packets.inside(gate, packet);
        Check.due("1 again", gate.word(1), 1 << 16);
        Check.due("then 2", gate.count(16), 2);
    }

    /** Promise 19: "6 TIME (at most 2147483647)". */
    private static void timeIsToldUpToItsMost() {
        TransitGate gate = Packets.gate();
        for (int i = 0; i < LAST_TIME / MOST_TICKS; i++) {
            gate.tick(MOST_TICKS);
        }
        gate.tick(LAST_TIME % MOST_TICKS - 1);
        Check.due("one before", gate.count(6), LAST_TIME - 1);
        gate.tick(1);
        Check.due("the most", gate.count(6), LAST_TIME);
        gate.tick(1);
        Check.due("no more is told", gate.count(6), LAST_TIME);
        gate.tick(MOST_TICKS);
        Check.due("nor later", gate.count(6), LAST_TIME);
        Packets.inside(gate, udp(0));
        Check.due("a session has its whole time", gate.session(0, 4), 300);
        Check.due("not yet", gate.tick(299), 0);
        Check.due("it ends", gate.tick(1), 1);
    }
}
