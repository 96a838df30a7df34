import java.util.Random;

/**
 * Any calls with any arguments, in runs of 512: a call that throws ends the test with a failure.
 * What is made must be a packet that the checksums of another hand call right.
 */
public final class RandomCallsTest {
    private static final int RUNS = 3000;
    private static final int CALLS = 512;

    private final Random random;
    private TransitGate gate;
    private int calls;
    private int made;

    private RandomCallsTest(long seed) {
        random = new Random(seed);
    }

    public static void main(String[] args) {
        RandomCallsTest test = new RandomCallsTest(20261116);
        for (int i = 0; i < RUNS; i++) {
            test.run();
        }
        Check.due("packets were made", test.made > RUNS, true);
        Check.end();
    }

    private void run() {
        gate = random.nextInt(4) == 0 ? new TransitGate() : Packets.gate();
        calls = 2;
        while (calls < CALLS - 100) {
            if (random.nextInt(3) == 0) {
                packet();
            } else {
                anyCall();
            }
            limits();
        }
    }

    private int number() {
        switch (random.nextInt(6)) {
            case 0: return random.nextInt();
            case 1: return Integer.MIN_VALUE;
            case 2: return Integer.MAX_VALUE;
            case 3: return random.nextInt(1700);
            default: return random.nextInt(20) - 2;
        }
    }

    private void anyCall() {
        calls++;
        switch (random.nextInt(18)) {
            case 0: prefix(); break;
            case 1: gate.pool(random.nextInt()); break;
            case 2: gate.high(number()); break;
            case 3: gate.low(number()); break;
            case 4: gate.drawn(random.nextLong(), random.nextLong()); break;
            case 5: gate.feed(number(), number(), number(), number(), number()); break;
            case 6: gate.inside(number()); break;
            case 7: gate.outside(number()); break;
            case 8: gate.word(number()); break;
            case 9: gate.take(); break;
            case 10: gate.bend(number(), number()); break;
            case 11: gate.sign(number(), number()); break;
            case 12: gate.signHead(); break;
            case 13: gate.tick(number()); break;
            case 14: gate.binding(number(), number()); break;
            case 15: gate.inner(number(), random.nextBoolean()); break;
            case 16: gate.session(number(), number()); break;
            default: gate.count(number()); break;
        }
    }

    private void prefix() {
        if (random.nextInt(20) == 0) {
            int[] lengths = {32, 40, 48, 56, 64, 96, 97};
            gate.prefix(random.nextLong(), random.nextLong(), lengths[random.nextInt(7)]);
        }
    }

    private byte[] part(boolean inside) {
        int one = random.nextInt(4) + 1022;
        int two = random.nextInt(4) + 1022;
        byte[] data = new byte[random.nextInt(5)];
        random.nextBytes(data);
        switch (random.nextInt(3)) {
            case 0: return Packets.udp(one, two, data);
            case 1: return Packets.tcp(one, two, random.nextInt(32), data);
            default: return Packets.echo(inside ? 128 : 8, random.nextInt(3), data);
        }
    }

    private static int protocolOf(byte[] part, boolean inside) {
        if (part.length >= 20) {
            return 6;
        }
        return part[0] != 3 && part[0] != 4 ? inside ? 58 : 1 : 17;
    }

    private void packet() {
        boolean inside = random.nextBoolean();
        byte[] part = part(inside);
        int far = Packets.FAR + random.nextInt(3);
        int protocol = protocolOf(part, inside);
        byte[] packet = inside
                ? Packets.six(random.nextInt(4), far, protocol, part)
                : Packets.four(far, Packets.POOL, protocol, part);
        if (random.nextInt(8) == 0) {
            packet[random.nextInt(packet.length)] ^= (byte) (1 << random.nextInt(8));
        }
        gate.take();
        gate.outside(gate.count(4));
        gate.inside(gate.count(4));
        int answer = inside ? Packets.inside(gate, packet) : Packets.outside(gate, packet);
        calls += 9;
        if (answer > 0) {
            made++;
            rightlyMade(answer);
        }
    }

    private void rightlyMade(int length) {
        byte[] out = Packets.out(gate);
        calls += 1 + (length + 3) / 4;
        boolean four = out[0] == 0x45;
        byte[] again = four
                ? Packets.headSigned(Packets.signed(out.clone(), 20))
                : Packets.signed(out.clone(), 40);
        Check.same("a made packet", out, again);
    }

    private void limits() {
        boolean sound = gate.count(0) <= 64 && gate.count(1) <= 128 && gate.count(2) <= 4
                && gate.count(4) <= 1600 && gate.count(5) <= 1620 && gate.count(0) <= gate.count(1);
        calls += 7;
        if (!sound) {
            Check.due("limits", sound, true);
        }
    }
}
