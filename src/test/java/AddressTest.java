/** Promises 1 to 6: a new object, prefix, pool, high, low, drawn. */
public final class AddressTest {
    private static final int PLACE = 0xC0000221;

    public static void main(String[] args) {
        newObject();
        lengths();
        embedding();
        drawing();
        ninetySixKeepsByteEight();
        prefixForgetsTables();
        wrongPrefixKeepsAll();
        poolNumbers();
        poolOddOnes();
        Check.end();
    }

    private static void newObject() {
        TransitGate gate = new TransitGate();
        for (int what = 0; what <= 7; what++) {
            Check.due("new count " + what, gate.count(what), 0);
        }
        for (int what = 10; what <= 15; what++) {
            Check.due("new count " + what, gate.count(what), 0);
        }
        Check.due("new count 16", gate.count(16), 1);
        Check.due("new word", gate.word(0), 0);
        Check.due("new high", gate.high(PLACE), 0);
        Check.due("new low", gate.low(PLACE), 0);
        Check.due("new drawn", gate.drawn(0, 0), -1);
        Check.due("new take", gate.take(), 0);
        Check.due("new binding", gate.binding(0, 0), -1);
        Check.due("new session", gate.session(0, 0), -1);
        Check.due("new inner", gate.inner(0, true), 0);
    }

    private static void lengths() {
        for (int length = -8; length <= 136; length++) {
            boolean known = length == 32 || length == 40 || length == 48 || length == 56
                    || length == 64 || length == 96;
            TransitGate gate = new TransitGate();
            Check.due("prefix " + length, gate.prefix(-1L, -1L, length), known);
            Check.due("bits of " + length, gate.count(3), known ? length : 0);
        }
        TransitGate gate = new TransitGate();
        Check.due("least length", gate.prefix(1, 1, Integer.MIN_VALUE), false);
        Check.due("greatest length", gate.prefix(1, 1, Integer.MAX_VALUE), false);
    }

    private static void embed(int length, long high, long low) {
        TransitGate gate = new TransitGate();
        // Bits beyond the length, and byte 8, must not matter: all are set here.
        gate.prefix(0x20010db801220344L | -1L >>> length, -1L, length);
        Check.due("high of " + length, gate.high(PLACE), high);
        Check.due("low of " + length, gate.low(PLACE), low);
        Check.due("drawn of " + length, gate.drawn(high, low), PLACE & 0xFFFFFFFFL);
    }

    private static void embedding() {
        // The examples of RFC 6052, section 2.4.
        embed(32, 0x20010db8c0000221L, 0);
        embed(40, 0x20010db801c00002L, 0x0021000000000000L);
        embed(48, 0x20010db80122c000L, 0x0002210000000000L);
        embed(56, 0x20010db8012203c0L, 0x0000022100000000L);
        TransitGate gate = new TransitGate();
        gate.prefix(0x20010db801220344L, -1L, 64);
        Check.due("high of 64", gate.high(PLACE), 0x20010db801220344L);
        Check.due("low of 64", gate.low(PLACE), 0x00c0000221000000L);
        Check.due("drawn of 64", gate.drawn(0x20010db801220344L, 0x00c0000221000000L), 0xC0000221L);
        gate.prefix(0x20010db801220344L, -1L, 96);
        Check.due("high of 96", gate.high(PLACE), 0x20010db801220344L);
        Check.due("low of 96", gate.low(PLACE), 0xFFFFFFFFC0000221L);
        Check.due("low of the last", gate.low(-1), -1L);
    }

    private static void drawing() {
        int[] lengths = {32, 40, 48, 56, 64};
        for (int length : lengths) {
            TransitGate gate = new TransitGate();
            gate.prefix(-1L, 0, length);
            long high = gate.high(-1);
            long low = gate.low(-1);
            Check.due("the last of " + length, gate.drawn(high, low), 0xFFFFFFFFL);
            Check.due("behind of " + length, gate.drawn(high, low | 0xFFFFFFL), 0xFFFFFFFFL);
            Check.due("byte 8 of " + length, gate.drawn(high, low | 1L << 56), -1);
            Check.due("last bit of " + length, gate.drawn(high ^ 1L << 64 - length, low), -1);
            Check.due("first bit of " + length, gate.drawn(high ^ 1L << 63, low), -1);
        }
        TransitGate gate = new TransitGate();
        gate.prefix(0, 0, 64);
        Check.due("drawn 0", gate.drawn(0, 0), 0);
        gate.prefix(0, 0, 56);
        Check.due("drawn by bytes 7 and 9 on", gate.drawn(0x81L, 0x0082838400000000L), 0x81828384L);
    }

    private static void ninetySixKeepsByteEight() {
        TransitGate gate = new TransitGate();
        gate.prefix(Packets.SITE, 0xAB000000FFFFFFFFL, 96);
        Check.due("low with byte 8", gate.low(4), 0xAB00000000000004L);
        Check.due("drawn with byte 8", gate.drawn(Packets.SITE, 0xAB00000000000005L), 5);
        Check.due("drawn without it", gate.drawn(Packets.SITE, 5), -1);
        Check.due("drawn elsewhere", gate.drawn(Packets.SITE + 1, 0xAB00000000000005L), -1);
        Check.due("bit 96", gate.drawn(Packets.SITE, 0xAB00000100000005L), -1);
    }

    private static TransitGate busyGate() {
        TransitGate gate = Packets.gate();
        byte[] part = Packets.udp(5000, 53);
        Packets.inside(gate, Packets.six(1, Packets.FAR, Packets.UDP, part));
        Check.due("a binding is made", gate.count(0), 1);
        return gate;
    }

    private static void prefixForgetsTables() {
        TransitGate gate = busyGate();
        Check.due("prefix again", gate.prefix(Packets.SITE, 0, 96), true);
        Check.due("no binding", gate.count(0), 0);
        Check.due("no session", gate.count(1), 0);
        Check.due("the pool stays", gate.count(2), 1);
        Check.due("out stays", gate.count(5), 28);
        Check.due("the identification goes on", gate.count(16), 2);
    }

    private static void wrongPrefixKeepsAll() {
        TransitGate gate = busyGate();
        Check.due("wrong prefix", gate.prefix(1, 1, 41), false);
        Check.due("binding stays", gate.count(0), 1);
        Check.due("session stays", gate.count(1), 1);
        Check.due("bits stay", gate.count(3), 96);
        Check.due("prefix stays", gate.high(1), Packets.SITE);
    }

    private static void poolNumbers() {
        TransitGate gate = new TransitGate();
        for (int i = 0; i < 4; i++) {
            Check.due("pool " + i, gate.pool(Packets.ip(192, 168, 1, i)), i);
            Check.due("size " + i, gate.count(2), i + 1);
        }
        Check.due("there", gate.pool(Packets.ip(192, 168, 1, 2)), -1);
        Check.due("odd in a full pool", gate.pool(Packets.ip(127, 1, 1, 1)), -1);
        Check.due("full", gate.pool(Packets.ip(192, 168, 1, 9)), -2);
        Check.due("size stays", gate.count(2), 4);
    }

    private static void poolOddOnes() {
        int[] odd = {0, 127, 224, 225, 240, 255};
        for (int first : odd) {
            TransitGate gate = new TransitGate();
            Check.due("odd " + first, gate.pool(Packets.ip(first, 1, 2, 3)), -1);
            Check.due("none of " + first, gate.count(2), 0);
        }
        int[] even = {1, 126, 128, 223};
        for (int first : even) {
            Check.due("not odd " + first, new TransitGate().pool(Packets.ip(first, 0, 0, 0)), 0);
        }
    }
}
