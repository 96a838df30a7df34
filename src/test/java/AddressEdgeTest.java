import java.util.Map;

/**
 * The boundary cases of promises 1 to 6 and of the terms ADDRESSES and THE POOL; above each test
 * stands the sentence that it holds to.
 */
public final class AddressEdgeTest {
    private static final int[] LENGTHS = {32, 40, 48, 56, 64, 96};
    private static final int LEAST = Integer.MIN_VALUE;
    private static final int GREATEST = Integer.MAX_VALUE;
    private static final int POOL = Packets.POOL;

    public static void main(String[] args) {
        nothingSet();
        objectsAreApart();
        otherLengths();
        knownLengths();
        bitsBeyondTheLength();
        byteEightOfThePrefix();
        byteEightWithNinetySixBits();
        tablesAreNoMore();
        emptyAndFullTablesAreNoMore();
        aPrefixInPlaceOfAnother();
        aPrefixOfZerosIsOne();
        poolNumbers();
        oddAddresses();
        addressesThatAreThere();
        aFullPool();
        oddOrThereBeforeFull();
        withoutAPrefix();
        leastAndGreatestEmbedded();
        embeddedBitByBit();
        oddOnesAreEmbeddedToo();
        drawnWithoutAPrefix();
        drawnRange();
        firstBits();
        byteEightDrawn();
        byteEightDrawnWithNinetySixBits();
        whatIsBehind();
        Check.end();
    }

    private static TransitGate gate(long high, long low, int length) {
        TransitGate gate = new TransitGate();
        gate.prefix(high, low, length);
        return gate;
    }

    /** Promise 1: "Nothing set." Terms: "TIME is 0 at first", "(none is set at first)". */
    private static void nothingSet() {
        for (Map.Entry<String, Long> each : State.after(Scenes::fresh).entrySet()) {
            String name = each.getKey();
            Check.due("new " + name, each.getValue(), newlyTold(name));
        }
        TransitGate gate = new TransitGate();
        Check.due("no byte of the tape", gate.bend(0, 1), -1);
        Check.due("no word of out", gate.word(0), 0);
        Check.due("no binding", gate.binding(0, 0), -1);
        Check.due("no inner high", gate.inner(0, false), 0);
        Check.due("no inner low", gate.inner(0, true), 0);
        Check.due("no session", gate.session(0, 0), -1);
    }

    private static long newlyTold(String name) {
        boolean unknown = name.equals("count -1") || name.equals("count 8")
                || name.equals("count 9") || name.equals("count 17");
        if (unknown || name.startsWith("drawn")) {
            return -1;
        }
        return name.equals("count 16") ? 1 : 0;
    }

    /** Promise 1: a new object has nothing of one that was used. */
    private static void objectsAreApart() {
        TransitGate used = new TransitGate();
        Scenes.busyWithTape(used);
        for (Map.Entry<String, Long> each : State.after(Scenes::fresh).entrySet()) {
            Check.due("beside a used one, " + each.getKey(), each.getValue(),
                    newlyTold(each.getKey()));
        }
        Check.due("the used one", used.count(1), 3);
    }

    /** Promise 2: "False, and nothing happens, for another length." */
    private static void otherLengths() {
        int[] others = {LEAST, LEAST + 32, -96, -64, -32, -1, 0, 1, 8, 16, 24, 31, 33, 36, 39, 41,
            47, 49, 55, 57, 63, 65, 72, 80, 88, 95, 97, 104, 112, 120, 127, 128, 256 + 32,
            65536 + 64, GREATEST};
        for (int length : others) {
            Check.call("length " + length, Scenes::busyWithTape,
                    gate -> gate.prefix(1, 1, length) ? 1 : 0, 0);
            Check.call("length " + length + " at first", Scenes::fresh,
                    gate -> gate.prefix(-1, -1, length) ? 1 : 0, 0);
        }
    }

    /** Terms: "THE PREFIX has 32, 40, 48, 56, 64 or 96 bits". */
    private static void knownLengths() {
        for (int length : LENGTHS) {
            // With 32 bits all four bytes stand in HIGH, so that LOW is 0 as it was.
            String[] changes = length == 32
                    ? new String[] {"count 3", "high"} : new String[] {"count 3", "high", "low"};
            Check.call("length " + length, Scenes::fresh,
                    gate -> gate.prefix(-1, -1, length) ? 1 : 0, 1, changes);
            Check.due("bits " + length, gate(5, 5, length).count(3), length);
        }
    }

    /** Promise 2: "(bits beyond its length .. are taken as 0". */
    private static void bitsBeyondTheLength() {
        for (int length : LENGTHS) {
            if (length == 96) {
                continue;
            }
            String of = " of " + length;
            long last = 1L << 64 - length;
            Check.due("the last bit" + of, gate(last, 0, length).high(0), last);
            Check.due("the first bit" + of, gate(1L << 63, 0, length).high(0), 1L << 63);
            if (length < 64) {
                Check.due("a bit beyond" + of, gate(last >>> 1, 0, length).high(0), 0);
                Check.due("the last beyond" + of, gate(1, 0, length).high(0), 0);
            }
            Check.due("all of low" + of, gate(0, -1, length).low(0), 0);
            Check.due("all of low, high" + of, gate(0, -1, length).high(0), 0);
            TransitGate gate = gate(-1, -1, length);
            Check.due("all ones" + of, gate.high(0), -1L << 64 - length);
            Check.due("all ones are its own" + of, gate.drawn(gate.high(9), gate.low(9)), 9);
        }
        Check.due("bit 95", gate(0, 1L << 32, 96).low(0), 1L << 32);
        Check.due("bit 96", gate(0, 1L << 31, 96).low(0), 0);
        Check.due("bit 127", gate(0, 1, 96).low(0), 0);
        Check.due("bit 63", gate(1, 0, 96).high(0), 1);
    }

    /** Promise 2: "and byte 8, are taken as 0". */
    private static void byteEightOfThePrefix() {
        for (int length : LENGTHS) {
            for (int bit = 56; bit < 64 && length < 96; bit++) {
                TransitGate gate = gate(Packets.SITE, 1L << bit, length);
                Check.due("bit " + bit + " of " + length, gate.low(0), 0);
                Check.due("drawn with it", gate.drawn(gate.high(0), 1L << bit), -1);
            }
        }
    }

    /** Promise 2: "but with 96 bits byte 8 as it is". */
    private static void byteEightWithNinetySixBits() {
        for (int bit = 56; bit < 64; bit++) {
            TransitGate gate = gate(Packets.SITE, 1L << bit, 96);
            Check.due("bit " + bit, gate.low(7), 1L << bit | 7);
            Check.due("drawn with bit " + bit, gate.drawn(Packets.SITE, 1L << bit | 7), 7);
        }
    }

    /** Promise 2: "All BINDINGS and SESSIONS are no more." Nothing else goes with them. */
    private static void tablesAreNoMore() {
        String[] tables = {"count 0", "count 1", "binding", "inner", "session"};
        Check.call("the same prefix", Scenes::busyWithTape,
                gate -> gate.prefix(Packets.SITE, 0, 96) ? 1 : 0, 1, tables);
        Check.call("another prefix", Scenes::busyWithTape,
                gate -> gate.prefix(Packets.HOME, 0, 64) ? 1 : 0, 1,
                "count 0", "count 1", "binding", "inner", "session", "count 3", "high", "low",
                "drawn");
    }

    /** Promise 2: "All BINDINGS and SESSIONS are no more", be there none or as many as may be. */
    private static void emptyAndFullTablesAreNoMore() {
        Check.call("none there", Scenes::open,
                gate -> gate.prefix(Packets.SITE, 0, 96) ? 1 : 0, 1);
        Check.call("64 bindings", Scenes::fullBindings,
                gate -> gate.prefix(Packets.SITE, 0, 96) ? 1 : 0, 1,
                "count 0", "count 1", "binding", "inner", "session");
        Check.call("128 sessions", Scenes::fullSessions,
                gate -> gate.prefix(Packets.SITE, 0, 96) ? 1 : 0, 1,
                "count 0", "count 1", "binding", "inner", "session");
        TransitGate gate = new TransitGate();
        Scenes.fullBindings(gate);
        gate.prefix(Packets.SITE, 0, 96);
        Check.due("room again", Scenes.udp(gate, 7, 9000, Packets.FAR), 28);
        Check.due("the first number again", gate.inner(0, true), 7);
        Check.due("the first port again", gate.binding(0, 3), 1024);
    }

    /** Promise 2: "THE PREFIX": of one that was there before, longer or shorter, nothing stays. */
    private static void aPrefixInPlaceOfAnother() {
        for (int before : LENGTHS) {
            for (int length : LENGTHS) {
                TransitGate gate = gate(-1, -1, before);
                gate.prefix(Packets.SITE, 0, length);
                TransitGate alone = gate(Packets.SITE, 0, length);
                String of = length + " behind " + before;
                Check.due("high of " + of, gate.high(POOL), alone.high(POOL));
                Check.due("low of " + of, gate.low(POOL), alone.low(POOL));
                Check.due("drawn of " + of, gate.drawn(gate.high(-1), gate.low(-1)), 0xFFFFFFFFL);
                Check.due("the one before " + of, gate.drawn(-1, 0x00FFFFFFFFFFFFFFL), -1);
                Check.due("bits of " + of, gate.count(3), length);
            }
        }
    }

    /** Promises 4 and 6: a prefix whose bits are all 0 is not "without a PREFIX". */
    private static void aPrefixOfZerosIsOne() {
        for (int length : LENGTHS) {
            TransitGate gate = gate(0, 0, length);
            Check.due("zeros, bits " + length, gate.count(3), length);
            Check.due("zeros, least " + length, gate.drawn(0, 0), 0);
            Check.due("zeros, again " + length, gate.drawn(gate.high(-1), gate.low(-1)),
                    0xFFFFFFFFL);
        }
    }

    /** Promise 3: "One more address of THE POOL: its number." */
    private static void poolNumbers() {
        Check.call("the first", Scenes::fresh, gate -> gate.pool(POOL), 0, "count 2", "pool");
        Check.call("the second, in use", gate -> {
            Scenes.oneOut(gate);
            gate.feed(1, 2, 3, 4, 5);
        }, gate -> gate.pool(POOL + 1), 1, "count 2", "pool");
    }

    /** Terms: "ODD if its first byte is 0, 127, or 224 and above". Promise 3: "-1 it is ODD". */
    private static void oddAddresses() {
        int[] odd = {0, 1, 0x00FFFFFF, 0x7F000000, 0x7F000001, 0x7FFFFFFF, 0xE0000000, 0xEFFFFFFF,
            0xF0000000, 0xFFFFFFFF};
        for (int address : odd) {
            String of = Integer.toHexString(address);
            Check.call("odd " + of, Scenes::busyWithTape, gate -> gate.pool(address), -1);
            Check.call("odd at first " + of, Scenes::fresh, gate -> gate.pool(address), -1);
        }
        int[] others = {0x01000000, 0x7EFFFFFF, 0x80000000, 0xDFFFFFFF};
        for (int address : others) {
            TransitGate gate = new TransitGate();
            Check.due("not odd " + Integer.toHexString(address), gate.pool(address), 0);
            Check.due("it came", gate.count(2), 1);
        }
    }

    private static void poolOf(TransitGate gate, int many) {
        for (int i = 0; i < many; i++) {
            gate.pool(POOL + i);
        }
    }

    /** Promise 3: "-1 .. or there". */
    private static void addressesThatAreThere() {
        for (int many = 1; many <= 4; many++) {
            int size = many;
            for (int i = 0; i < many; i++) {
                int number = i;
                Check.call("there: " + i + " of " + many, gate -> poolOf(gate, size),
                        gate -> gate.pool(POOL + number), -1);
            }
        }
        TransitGate gate = new TransitGate();
        gate.pool(POOL);
        Check.due("one bit beside", gate.pool(POOL ^ 1 << 30), 1);
    }

    /** Terms: "THE POOL has up to 4 IPv4 addresses". Promise 3: "-2 there are 4". */
    private static void aFullPool() {
        Check.call("the fourth", gate -> poolOf(gate, 3), gate -> gate.pool(POOL + 3), 3,
                "count 2", "pool");
        Check.call("a fifth", gate -> poolOf(gate, 4), gate -> gate.pool(POOL + 4), -2);
        Check.call("a fifth, in use", gate -> {
            Scenes.busyWithTape(gate);
            gate.pool(POOL + 2);
            gate.pool(POOL + 3);
        }, gate -> gate.pool(POOL + 4), -2);
        TransitGate gate = new TransitGate();
        poolOf(gate, 4);
        gate.pool(POOL + 4);
        Check.due("four stay", gate.count(2), 4);
        gate.prefix(Packets.SITE, 0, 96);
        Check.due("a prefix empties no pool", gate.pool(POOL + 4), -2);
    }

    /** Promise 3: of "-1 it is ODD, or there; -2 there are 4" the first that fits. */
    private static void oddOrThereBeforeFull() {
        Check.call("odd and full", gate -> poolOf(gate, 4), gate -> gate.pool(0), -1);
        Check.call("there and full", gate -> poolOf(gate, 4), gate -> gate.pool(POOL + 3), -1);
    }

    /** Promises 4 and 5: "0 without a PREFIX". */
    private static void withoutAPrefix() {
        int[] addresses = {0, 1, POOL, LEAST, GREATEST, -1};
        for (int address : addresses) {
            Check.call("high without", Scenes::fresh, gate -> gate.high(address), 0);
            Check.call("low without", Scenes::fresh, gate -> gate.low(address), 0);
            TransitGate refused = gate(-1, -1, 97);
            Check.due("high, refused", refused.high(address), 0);
            Check.due("low, refused", refused.low(address), 0);
            TransitGate pooled = new TransitGate();
            pooled.pool(POOL);
            Check.due("high, a pool alone", pooled.high(address), 0);
            Check.due("low, a pool alone", pooled.low(address), 0);
        }
    }

    /** Terms: "byte 8 of the sixteen (from 0) is left out and is 0", "all others are 0". */
    private static void leastAndGreatestEmbedded() {
        long[] highs = {0xFFFFFFFFL, 0xFFFFFFL, 0xFFFFL, 0xFFL, 0, 0};
        long[] lows = {0, 0x00FF000000000000L, 0x00FFFF0000000000L, 0x00FFFFFF00000000L,
            0x00FFFFFFFF000000L, 0xFFFFFFFFL};
        for (int i = 0; i < LENGTHS.length; i++) {
            TransitGate gate = gate(0, 0, LENGTHS[i]);
            Check.due("high of the greatest " + LENGTHS[i], gate.high(-1), highs[i]);
            Check.due("low of the greatest " + LENGTHS[i], gate.low(-1), lows[i]);
            Check.due("high of the least " + LENGTHS[i], gate.high(0), 0);
            Check.due("low of the least " + LENGTHS[i], gate.low(0), 0);
        }
    }

    /** The place of a bit of the address among the 128, by counting bytes and leaving out one. */
    private static int placeOf(int bit, int length) {
        int place = length + bit;
        return length < 96 && place >= 64 ? place + 8 : place;
    }

    /** Terms: "its bits first; the four bytes follow", each bit by itself, and drawn again. */
    private static void embeddedBitByBit() {
        for (int length : LENGTHS) {
            TransitGate gate = gate(0, 0, length);
            for (int bit = 0; bit < 32; bit++) {
                int address = 1 << 31 - bit;
                int place = placeOf(bit, length);
                long high = place < 64 ? 1L << 63 - place : 0;
                long low = place < 64 ? 0 : 1L << 127 - place;
                String of = "bit " + bit + " of " + length;
                Check.due("high, " + of, gate.high(address), high);
                Check.due("low, " + of, gate.low(address), low);
                Check.due("drawn, " + of, gate.drawn(high, low), address & 0xFFFFFFFFL);
            }
        }
    }

    /** Promises 4 to 6 name no address that they refuse: an ODD one is as any other. */
    private static void oddOnesAreEmbeddedToo() {
        TransitGate gate = gate(Packets.SITE, 0, 96);
        int[] odd = {0, 0x7F000001, 0xE0000000, -1};
        for (int address : odd) {
            Check.due("an odd one, high", gate.high(address), Packets.SITE);
            Check.due("an odd one, low", gate.low(address), address & 0xFFFFFFFFL);
            Check.due("an odd one drawn", gate.drawn(Packets.SITE, address & 0xFFFFFFFFL),
                    address & 0xFFFFFFFFL);
        }
    }

    /** Promise 6: "-1 if it is none", as every one is while no PREFIX is set. */
    private static void drawnWithoutAPrefix() {
        long[] some = {0, 1, -1, Packets.SITE, Long.MIN_VALUE, Long.MAX_VALUE};
        for (long high : some) {
            for (long low : some) {
                Check.due("drawn without", new TransitGate().drawn(high, low), -1);
            }
        }
        Check.call("drawn without", Scenes::fresh, gate -> gate.drawn(0, 0), -1);
        Check.due("drawn, refused", gate(0, 0, 33).drawn(0, 0), -1);
    }

    /** Promise 6: "as 0 .. 2 to the 32 less 1". */
    private static void drawnRange() {
        int[] addresses = {0, 1, 0x7FFFFFFF, 0x80000000, 0x80000001, -2, -1};
        for (int length : LENGTHS) {
            TransitGate gate = gate(Packets.HOME, 0, length);
            for (int address : addresses) {
                long got = gate.drawn(gate.high(address), gate.low(address));
                Check.due("drawn of " + length, got, address & 0xFFFFFFFFL);
            }
        }
    }

    /** Terms: "An address is OF THE PREFIX if its first bits are those". */
    private static void firstBits() {
        for (int length : LENGTHS) {
            TransitGate gate = gate(0x20010db801220344L, 0x0055667788000000L, length);
            long high = gate.high(1);
            long low = gate.low(1);
            for (int bit = 0; bit < Math.min(length, 64); bit++) {
                Check.due("bit " + bit + " of " + length,
                        gate.drawn(high ^ 1L << 63 - bit, low), -1);
            }
            for (int bit = 64; bit < length; bit++) {
                Check.due("bit " + bit + " of " + length,
                        gate.drawn(high, low ^ 1L << 127 - bit), -1);
            }
            int place = placeOf(0, length);
            long first = place < 64 ? gate.drawn(high ^ 1L << 63 - place, low)
                    : gate.drawn(high, low ^ 1L << 127 - place);
            Check.due("the bit behind " + length, first, 0x80000001L);
        }
    }

    /** Terms: "and byte 8 is 0". */
    private static void byteEightDrawn() {
        for (int length : LENGTHS) {
            TransitGate gate = gate(Packets.HOME, 0, length);
            for (int bit = 56; bit < 64; bit++) {
                Check.due("byte 8, bit " + bit + " of " + length,
                        gate.drawn(gate.high(7), gate.low(7) | 1L << bit), -1);
            }
            if (length < 64) {
                Check.due("byte 7 of " + length,
                        gate.drawn(gate.high(255), gate.low(255)), 255);
            }
        }
    }

    /** Terms: "(with 96 bits: it is what the prefix has)". */
    private static void byteEightDrawnWithNinetySixBits() {
        TransitGate gate = gate(Packets.SITE, 0xA5L << 56, 96);
        Check.due("as the prefix has it", gate.drawn(Packets.SITE, 0xA5L << 56 | 9), 9);
        Check.due("0 where it has more", gate.drawn(Packets.SITE, 9), -1);
        for (int bit = 56; bit < 64; bit++) {
            Check.due("bent, bit " + bit,
                    gate.drawn(Packets.SITE, (0xA5L << 56 | 9) ^ 1L << bit), -1);
        }
    }

    /** Terms: "(what is behind them does not matter)". */
    private static void whatIsBehind() {
        for (int length : LENGTHS) {
            TransitGate gate = gate(Packets.HOME, 0, length);
            long high = gate.high(0xC0000220);
            long low = gate.low(0xC0000220);
            int behind = length == 96 ? 0 : 120 - length - 32;
            for (int bit = 0; bit < Math.min(behind, 56); bit++) {
                Check.due("behind, bit " + bit + " of " + length,
                        gate.drawn(high, low | 1L << bit), 0xC0000220L);
            }
            int place = placeOf(31, length);
            long last = place < 64 ? gate.drawn(high | 1L << 63 - place, low)
                    : gate.drawn(high, low | 1L << 127 - place);
            Check.due("the last bit of " + length, last, 0xC0000221L);
        }
    }
}
