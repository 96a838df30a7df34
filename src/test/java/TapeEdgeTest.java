import java.util.Map;
import java.util.function.Consumer;

/**
 * The boundary cases of promises 7 and 10 to 14 and of the terms TAPE, OUT and CHECKSUM; above
 * each test stands the sentence that it holds to.
 */
public final class TapeEdgeTest {
    private static final int LEAST = Integer.MIN_VALUE;
    private static final int GREATEST = Integer.MAX_VALUE;
    private static final int ROOM = 1600;

    public static void main(String[] args) {
        feedTheHighestFirst();
        feedsOntoAnEmptyTape();
        feedsUpToTheRoom();
        noRoomForAll();
        roomAgain();
        wordsBelow();
        wordsBeyond();
        wordsAcrossTheEnd();
        wordsOfNothing();
        wordsOfTheLongest();
        takesNothing();
        takesUpToTheRoom();
        takesNoMore();
        takesInPlace();
        bendsNoneThereIs();
        bendsFirstAndLast();
        bendsByTheLowestByte();
        bendsAnyByte();
        signsTheFirstBytes();
        signsOtherSizes();
        signsOtherVersions();
        signsOtherPlaces();
        signsTheLastPlaces();
        signsExactlyTwoBytes();
        signsByTheProtocol();
        signsUdpNeverZero();
        signsOthersZero();
        signsASingleLastByte();
        signsWithCarries();
        signsByTheLengthOfThePart();
        signsHeadsOfTooFew();
        signsHeads();
        signsHeadsAtTheEnds();
        Check.end();
    }

    private static void fill(TransitGate gate, int bytes) {
        for (int i = 0; i < bytes; i += 20) {
            gate.feed(0x60000000 | i, i * 3, i * 5, i * 7, i * 11);
        }
    }

    /** OUT of so many bytes, 48 .. 1600, is on the tape. */
    private static void taken(TransitGate gate, int length) {
        Scenes.outOf(gate, length);
        gate.take();
    }

    private static Consumer<TransitGate> tapeOf(int... words) {
        return gate -> {
            for (int i = 0; i < words.length; i += 5) {
                gate.feed(words[i], words[i + 1], words[i + 2], words[i + 3], words[i + 4]);
            }
        };
    }

    /** Promise 7: "four in each number, the highest first". */
    private static void feedTheHighestFirst() {
        int[] edges = {0, 1, -1, LEAST, GREATEST};
        for (int i = 0; i < edges.length; i++) {
            int[] five = new int[5];
            five[i] = edges[i];
            int[] bytes = {edges[i] >>> 24, edges[i] >> 16 & 255, edges[i] >> 8 & 255,
                edges[i] & 255};
            TransitGate gate = new TransitGate();
            gate.feed(five[0], five[1], five[2], five[3], five[4]);
            for (int at = 0; at < 20; at++) {
                int want = at / 4 == i ? bytes[at % 4] : 0;
                Check.due("byte " + at + " of number " + i, gate.bend(at, 0), want);
            }
        }
    }

    /** Promise 7: "Twenty bytes come onto the TAPE", be it empty or not. */
    private static void feedsOntoAnEmptyTape() {
        Check.call("onto none", Scenes::fresh, gate -> gate.feed(1, 2, 3, 4, 5) ? 1 : 0, 1,
                "count 4", "tape");
        Check.call("behind some", Scenes::busyWithTape,
                gate -> gate.feed(0x01010101, 2, 3, 4, 5) ? 1 : 0, 1,
                "count 4", "tape 40", "tape 41", "tape 42", "tape 43", "tape 44", "tape 45",
                "tape 46", "tape 47", "tape 48", "tape 49", "tape 50", "tape 51", "tape 52",
                "tape 53", "tape 54", "tape 55", "tape 56", "tape 57", "tape 58", "tape 59");
    }

    /** Terms: "The TAPE has up to 1600 bytes". */
    private static void feedsUpToTheRoom() {
        TransitGate gate = new TransitGate();
        for (int many = 20; many <= ROOM; many += 20) {
            Check.due("feed to " + many, gate.feed(many, 0, 0, 0, many), true);
            Check.due("bytes", gate.count(4), many);
        }
        Check.due("the last byte", gate.bend(ROOM - 1, 0), ROOM & 255);
        TransitGate exact = new TransitGate();
        taken(exact, 1580);
        Check.due("twenty bytes of room", exact.feed(1, 2, 3, 4, 5), true);
        Check.due("all of it", exact.count(4), ROOM);
        Check.due("the last that came", exact.bend(ROOM - 1, 0), 5);
    }

    /** Promise 7: "False, and none comes, if it has not room for all." */
    private static void noRoomForAll() {
        int[] lengths = {1581, 1590, 1599, 1600};
        for (int length : lengths) {
            Check.call("onto " + length, gate -> taken(gate, length),
                    gate -> gate.feed(-1, -1, -1, -1, -1) ? 1 : 0, 0);
        }
        Check.call("onto a full one", gate -> fill(gate, ROOM),
                gate -> gate.feed(-1, -1, -1, -1, -1) ? 1 : 0, 0);
    }

    /** Promises 8, 9 and 11: the TAPE "is empty then", or has OUT "in place of what it had". */
    private static void roomAgain() {
        TransitGate gate = new TransitGate();
        fill(gate, ROOM);
        gate.inside(0);
        Check.due("behind inside", gate.feed(1, 2, 3, 4, 5), true);
        fill(gate, ROOM - 20);
        gate.outside(ROOM);
        Check.due("behind outside", gate.feed(1, 2, 3, 4, 5), true);
        fill(gate, ROOM - 20);
        gate.take();
        Check.due("behind take", gate.feed(1, 2, 3, 4, 5), true);
        Check.due("twenty bytes", gate.count(4), 20);
    }

    /** Promise 10: "0 if i is below 0". */
    private static void wordsBelow() {
        int[] below = {-1, -2, -404, LEAST, LEAST + 1, -(1 << 30)};
        for (int i : below) {
            Check.call("word " + i, Scenes::busyWithTape, gate -> gate.word(i), 0);
        }
    }

    /** Promise 10: "(0 for what is beyond its end)", where 4 i runs over too. */
    private static void wordsBeyond() {
        int[] beyond = {15, 16, 400, 405, 1619, 1620, 1621, 1 << 29, 1 << 30, (1 << 30) + 1,
            GREATEST / 4, GREATEST / 4 + 1, GREATEST};
        for (int i : beyond) {
            Check.call("word " + i, Scenes::busyWithTape, gate -> gate.word(i), 0);
        }
        TransitGate gate = new TransitGate();
        Scenes.busy(gate);
        Check.due("the first word", gate.word(0), 0x62e00000);
        Check.due("the last word", gate.word(14) != 0, true);
    }

    /** Promise 10: "(0 for what is beyond its end)", of a word that is there in part. */
    private static void wordsAcrossTheEnd() {
        int[] lasts = {0, 0x01000000, 0x01080000, 0x01080f00, 0x01080f16};
        for (int many = 0; many <= 4; many++) {
            // What was longer before must not shine through.
            TransitGate gate = new TransitGate();
            Scenes.outOf(gate, 60);
            byte[] data = new byte[many];
            for (int i = 0; i < many; i++) {
                data[i] = (byte) (i * 7 + 1);
            }
            byte[] packet = Packets.four(Packets.FAR, Packets.POOL, 17,
                    Packets.udp(53, 1024, data));
            Check.due("out", Packets.outside(gate, packet), 48 + many);
            Check.due("the last of " + many, gate.word(12), lasts[many]);
            Check.due("behind it", gate.word(13), 0);
        }
    }

    /** Terms: "OUT is the packet that was made last": at first there is none. */
    private static void wordsOfNothing() {
        Check.call("no word", Scenes::fresh, gate -> gate.word(0), 0);
        Check.call("no word, a tape", gate -> fill(gate, 20), gate -> gate.word(0), 0);
        Check.call("no word, a drop", gate -> {
            fill(gate, 40);
            gate.inside(40);
        }, gate -> gate.word(0), 0);
    }

    /** Promise 10, of an OUT that is longer than the TAPE may be. */
    private static void wordsOfTheLongest() {
        TransitGate gate = new TransitGate();
        Scenes.outOf(gate, 1620);
        int last = 0;
        for (int i = 1568; i < 1572; i++) {
            last = last << 8 | i * 7 + 1 & 255;
        }
        Check.due("word 404", gate.word(404), last);
        Check.due("word 405", gate.word(405), 0);
    }

    /** Promise 11: "OUT comes onto the TAPE", and has no byte at first. */
    private static void takesNothing() {
        Check.call("nothing onto nothing", Scenes::fresh, gate -> gate.take(), 0);
        Check.call("nothing onto some", gate -> fill(gate, 40), gate -> gate.take(), 0,
                "count 4", "tape");
        Check.call("nothing onto all", gate -> fill(gate, ROOM), gate -> gate.take(), 0,
                "count 4", "tape");
    }

    /** Promise 11: "-1 .. if OUT has more than 1600": 1600 is not more. */
    private static void takesUpToTheRoom() {
        int[] lengths = {1599, 1600};
        for (int length : lengths) {
            Check.call("take " + length, gate -> Scenes.outOf(gate, length), gate -> gate.take(),
                    length, "count 4", "tape");
            TransitGate gate = new TransitGate();
            taken(gate, length);
            Check.due("its last byte", gate.bend(length - 1, 0), (length - 49) * 7 + 1 & 255);
            Check.due("none behind", gate.bend(length, 0), -1);
        }
    }

    /** Promise 11: "-1, and nothing happens, if OUT has more than 1600." */
    private static void takesNoMore() {
        int[] lengths = {1601, 1602, 1620};
        for (int length : lengths) {
            Check.call("take " + length, gate -> Scenes.outOf(gate, length),
                    gate -> gate.take(), -1);
            Check.call("take onto some " + length, gate -> {
                Scenes.outOf(gate, length);
                fill(gate, 40);
            }, gate -> gate.take(), -1);
        }
    }

    /** Promise 11: "in place of what it had: how many bytes". */
    private static void takesInPlace() {
        Check.call("fewer than there are", gate -> {
            Scenes.busy(gate);
            fill(gate, 200);
        }, gate -> gate.take(), 60, "count 4", "tape");
        Check.call("more than there are", Scenes::busyWithTape, gate -> gate.take(), 60,
                "count 4", "tape");
        TransitGate gate = new TransitGate();
        Scenes.busy(gate);
        fill(gate, 200);
        gate.take();
        byte[] out = Packets.out(gate);
        for (int i = 0; i < out.length; i++) {
            Check.due("byte " + i, gate.bend(i, 0), out[i] & 255);
        }
        Check.due("none behind", gate.bend(60, 0), -1);
        gate.take();
        Check.due("taken again", gate.count(4), 60);
    }

    /** Promise 12: "-1 if there is none". */
    private static void bendsNoneThereIs() {
        int[] none = {LEAST, -41, -1, 40, 41, 1599, 1600, 1601, GREATEST};
        for (int i : none) {
            Check.call("bend " + i, Scenes::busyWithTape, gate -> gate.bend(i, 255), -1);
            Check.call("bend of nothing " + i, Scenes::fresh, gate -> gate.bend(i, 255), -1);
        }
        Check.call("bend 0 of nothing", Scenes::fresh, gate -> gate.bend(0, 255), -1);
        Check.call("bend behind a full one", gate -> fill(gate, ROOM),
                gate -> gate.bend(ROOM, 255), -1);
        Check.call("bend behind one taken", gate -> taken(gate, 49), gate -> gate.bend(49, 1), -1);
    }

    /** Promise 12: "Byte i of the TAPE becomes another one", and no other byte does. */
    private static void bendsFirstAndLast() {
        Check.call("the first", Scenes::busyWithTape, gate -> gate.bend(0, 1), 0x45, "tape 0");
        Check.call("the last", Scenes::busyWithTape, gate -> gate.bend(39, 1), 0x80, "tape 39");
        Check.call("the last of all", gate -> fill(gate, ROOM),
                gate -> gate.bend(ROOM - 1, 255), 1580 * 11 & 255, "tape 1599");
        Check.call("the last of one taken", gate -> taken(gate, 49), gate -> gate.bend(48, 1), 1,
                "tape 48");
    }

    /** Promise 12: "by exclusive or with the lowest byte of mask". */
    private static void bendsByTheLowestByte() {
        int[] still = {0, 256, 0x7FFFFF00, -256, LEAST};
        for (int mask : still) {
            Check.call("mask " + mask, Scenes::busyWithTape, gate -> gate.bend(19, mask), 255);
        }
        int[] masks = {1, 128, 255, 257, -1, -128, GREATEST};
        for (int mask : masks) {
            Check.call("mask " + mask, Scenes::busyWithTape, gate -> gate.bend(16, mask), 0x7F,
                    "tape 16");
            TransitGate gate = new TransitGate();
            Scenes.busyWithTape(gate);
            gate.bend(16, mask);
            Check.due("bent by " + mask, gate.bend(16, mask), 0x7F ^ mask & 255);
            Check.due("bent back", gate.bend(16, 0), 0x7F);
        }
    }

    /** Promise 12: "what it was (0 .. 255)". */
    private static void bendsAnyByte() {
        TransitGate gate = new TransitGate();
        gate.feed(0, 0, 0, 0, 0);
        int was = 0;
        for (int value = 0; value < 256; value++) {
            Check.due("it was", gate.bend(7, was ^ value), was);
            was = value;
        }
        Check.due("the greatest", gate.bend(7, 0), 255);
    }

    /** An IPv4 packet of UDP on a tape of sixty bytes. */
    private static void fourOnTape(TransitGate gate) {
        Scenes.busy(gate);
        gate.feed(0x4500003C, 0, 0x40110000, 0x01020304, 0x05060708);
        gate.feed(0x00010002, 0x00030004, 0x00050006, 0x00070008, 0x0009000A);
        gate.feed(0x000B000C, 0x000D000E, 0x000F0010, 0x00110012, 0x00130014);
    }

    /** An IPv6 packet of UDP on a tape of eighty bytes. */
    private static void sixOnTape(TransitGate gate) {
        Scenes.busy(gate);
        gate.feed(0x60000000, 0x00281140, 0x01020304, 0x05060708, 0x090A0B0C);
        gate.feed(0x0D0E0F10, 0x11121314, 0x15161718, 0x191A1B1C, 0x1D1E1F20);
        gate.feed(0x00010002, 0x00030004, 0x00050006, 0x00070008, 0x0009000A);
        gate.feed(0x000B000C, 0x000D000E, 0x000F0010, 0x00110012, 0x00130014);
    }

    private static byte[] tape(Consumer<TransitGate> scene, int n) {
        Map<String, Long> told = State.after(scene);
        byte[] all = new byte[n];
        for (int i = 0; i < n; i++) {
            all[i] = told.get("tape " + i).byteValue();
        }
        return all;
    }

    private static int sumOf(Consumer<TransitGate> scene, int n, int head, int at) {
        byte[] packet = Packets.with(tape(scene, n), at, 0, 0);
        return Packets.partSum(packet, head, packet[head == 40 ? 6 : 9] & 255);
    }

    private static void refusesToSign(Consumer<TransitGate> scene, int n, int at) {
        Check.call("sign " + n + " at " + at, scene, gate -> gate.sign(n, at), -1);
    }

    private static void signs(Consumer<TransitGate> scene, int n, int head, int at) {
        TransitGate gate = new TransitGate();
        scene.accept(gate);
        int want = sumOf(scene, n, head, at);
        Check.due("sign " + n + " at " + at, gate.sign(n, at), want);
        Check.due("higher byte", gate.bend(at, 0), want >> 8);
        Check.due("lower byte", gate.bend(at + 1, 0), want & 255);
    }

    /** Promise 13: "of the TAPE's first n bytes", with as few and as many as may be. */
    private static void signsTheFirstBytes() {
        int[] sizes = {22, 23, 59, 60};
        for (int n : sizes) {
            signs(TapeEdgeTest::fourOnTape, n, 20, 20);
        }
        int[] longer = {42, 43, 79, 80};
        for (int n : longer) {
            signs(TapeEdgeTest::sixOnTape, n, 40, 40);
        }
        signs(gate -> fill(gate, ROOM), ROOM, 40, ROOM - 2);
        signs(gate -> taken(gate, 1599), 1599, 40, 46);
    }

    /** Promise 13: "-1 .. if n is not 20 .. (IPv6: 40 ..) what the TAPE has". */
    private static void signsOtherSizes() {
        int[] sizes = {LEAST, -1, 0, 1, 18, 19, 61, 80, 1600, 1601, GREATEST};
        for (int n : sizes) {
            refusesToSign(TapeEdgeTest::fourOnTape, n, 20);
            refusesToSign(TapeEdgeTest::fourOnTape, n, 26);
        }
        int[] longer = {LEAST, -1, 0, 20, 22, 38, 39, 81, 1600, GREATEST};
        for (int n : longer) {
            refusesToSign(TapeEdgeTest::sixOnTape, n, 20);
            refusesToSign(TapeEdgeTest::sixOnTape, n, 40);
        }
        refusesToSign(Scenes::fresh, 0, 0);
        refusesToSign(Scenes::fresh, 20, 20);
        refusesToSign(Scenes::fresh, 40, 40);
        refusesToSign(gate -> fill(gate, ROOM), ROOM + 1, 40);
        refusesToSign(gate -> taken(gate, 49), 50, 46);
    }

    /** Promise 13: "-1 .. the version is not 4 or 6". */
    private static void signsOtherVersions() {
        for (int version = 0; version < 16; version++) {
            int first = version << 4 | 5;
            Consumer<TransitGate> scene = gate -> {
                sixOnTape(gate);
                gate.bend(0, 0x60 ^ first);
            };
            if (version == 4 || version == 6) {
                signs(scene, 80, version == 4 ? 20 : 40, 60);
            } else {
                refusesToSign(scene, 80, 60);
            }
        }
    }

    /** Promise 13: "-1 .. or at is not in the part with a byte behind it". */
    private static void signsOtherPlaces() {
        int[] places = {LEAST, -2, -1, 0, 10, 18, 19, 39, 40, 41, 60, GREATEST - 1, GREATEST};
        for (int at : places) {
            refusesToSign(TapeEdgeTest::fourOnTape, 40, at);
        }
        int[] further = {LEAST, -1, 0, 20, 26, 38, 39, 59, 60, 61, GREATEST - 1, GREATEST};
        for (int at : further) {
            refusesToSign(TapeEdgeTest::sixOnTape, 60, at);
        }
        for (int at = 18; at <= 21; at++) {
            refusesToSign(TapeEdgeTest::fourOnTape, 20, at);
            refusesToSign(TapeEdgeTest::fourOnTape, 21, at);
        }
        for (int at = 38; at <= 41; at++) {
            refusesToSign(TapeEdgeTest::sixOnTape, 40, at);
            refusesToSign(TapeEdgeTest::sixOnTape, 41, at);
        }
    }

    /** Promise 13: "in its part .. with a byte behind it", at the first and the last place. */
    private static void signsTheLastPlaces() {
        signs(TapeEdgeTest::fourOnTape, 40, 20, 20);
        signs(TapeEdgeTest::fourOnTape, 40, 20, 21);
        signs(TapeEdgeTest::fourOnTape, 40, 20, 37);
        signs(TapeEdgeTest::fourOnTape, 40, 20, 38);
        signs(TapeEdgeTest::fourOnTape, 41, 20, 39);
        signs(TapeEdgeTest::sixOnTape, 60, 40, 40);
        signs(TapeEdgeTest::sixOnTape, 60, 40, 58);
        signs(TapeEdgeTest::sixOnTape, 61, 40, 59);
    }

    /** Promise 13: the checksum "is made what it must be", and nothing else of the TAPE. */
    private static void signsExactlyTwoBytes() {
        Check.call("IPv4", TapeEdgeTest::fourOnTape, gate -> gate.sign(40, 38),
                sumOf(TapeEdgeTest::fourOnTape, 40, 20, 38), "tape 38", "tape 39");
        Check.call("IPv6", TapeEdgeTest::sixOnTape, gate -> gate.sign(60, 58),
                sumOf(TapeEdgeTest::sixOnTape, 60, 40, 58), "tape 58", "tape 59");
        TransitGate gate = new TransitGate();
        fourOnTape(gate);
        int once = gate.sign(60, 26);
        Check.due("what stood there is no matter", gate.sign(60, 26), once);
        gate.bend(26, 0xA5);
        gate.bend(27, 0x5A);
        Check.due("bent before", gate.sign(60, 26), once);
    }

    /** Promise 13: "(of protocol 1 in IPv4 of the part alone; of any other with the words ahead". */
    private static void signsByTheProtocol() {
        int[] protocols = {0, 1, 2, 6, 17, 58, 255};
        for (int protocol : protocols) {
            signs(gate -> {
                fourOnTape(gate);
                gate.bend(9, 17 ^ protocol);
            }, 59, 20, 30);
            signs(gate -> {
                sixOnTape(gate);
                gate.bend(6, 17 ^ protocol);
            }, 79, 40, 50);
        }
        TransitGate gate = new TransitGate();
        fourOnTape(gate);
        int udp = gate.sign(60, 30);
        gate.bend(9, 17 ^ 1);
        int icmp = gate.sign(60, 30);
        gate.bend(12, 0x40);
        gate.bend(19, 0x40);
        Check.due("the part alone", gate.sign(60, 30), icmp);
        gate.bend(9, 17 ^ 1);
        Check.due("with the addresses", gate.sign(60, 30) == udp, false);
    }

    /** Terms: "Where a made UDP one is 0, 65535 stands." Promise 13: "of 17 never 0". */
    private static void signsUdpNeverZero() {
        // The length 4 and the protocol 17 with the first word add up to 65535, or to one less.
        Check.call("UDP in IPv4, 0", tapeOf(0x45000000, 0, 0x00110000, 0, 0,
                0xFFEA0000, 0, 0, 0, 0), gate -> gate.sign(24, 22), 65535, "tape 22", "tape 23");
        Check.call("UDP in IPv4, 1", tapeOf(0x45000000, 0, 0x00110000, 0, 0,
                0xFFE90000, 0, 0, 0, 0), gate -> gate.sign(24, 22), 1, "tape 23");
        Check.call("UDP in IPv4, 65534", tapeOf(0x45000000, 0, 0x00110000, 0, 0,
                0xFFEB0000, 0, 0, 0, 0), gate -> gate.sign(24, 22), 65534, "tape 22", "tape 23");
        Check.call("UDP in IPv6, 0", tapeOf(0x60000000, 0x00001100, 0, 0, 0, 0, 0, 0, 0, 0,
                0xFFEA0000, 0, 0, 0, 0), gate -> gate.sign(44, 42), 65535, "tape 42", "tape 43");
    }

    /** Promise 13: "of 17 never 0": of any other 0 is 0. */
    private static void signsOthersZero() {
        Check.call("TCP in IPv4", tapeOf(0x45000000, 0, 0x00060000, 0, 0,
                0xFFF5ABCD, 0, 0, 0, 0), gate -> gate.sign(24, 22), 0, "tape 22", "tape 23");
        Check.call("ICMP in IPv4", tapeOf(0x45000000, 0, 0x00010000, 0, 0,
                0xFFFFABCD, 0, 0, 0, 0), gate -> gate.sign(24, 22), 0, "tape 22", "tape 23");
        Check.call("ICMP of nothing", tapeOf(0x45000000, 0, 0x00010000, 0, 0, 0, 0, 0, 0, 0),
                gate -> gate.sign(24, 22), 65535, "tape 22", "tape 23");
        Check.call("ICMPv6 in IPv6", tapeOf(0x60000000, 0x00003A00, 0, 0, 0, 0, 0, 0, 0, 0,
                0xFFC1ABCD, 0, 0, 0, 0), gate -> gate.sign(44, 42), 0, "tape 42", "tape 43");
        Check.call("ICMP in IPv6", tapeOf(0x60000000, 0x00000100, 0, 0, 0, 0, 0, 0, 0, 0,
                0xFFFAABCD, 0, 0, 0, 0), gate -> gate.sign(44, 42), 0, "tape 42", "tape 43");
    }

    /** Terms: "(a last single byte is a word's higher one)". */
    private static void signsASingleLastByte() {
        int[] words = {0x45000000, 0, 0x00010000, 0, 0, 0, 0x12345678, 0, 0, 0};
        Check.call("an odd end", tapeOf(words), gate -> gate.sign(25, 20), 65535 - 0x1200,
                "tape 20", "tape 21");
        Check.call("an even end", tapeOf(words), gate -> gate.sign(26, 20), 65535 - 0x1234,
                "tape 20", "tape 21");
        Check.call("the next odd end", tapeOf(words), gate -> gate.sign(27, 20),
                65535 - 0x1234 - 0x5600, "tape 20", "tape 21");
    }

    /** Terms: "the sum, with carries added again". */
    private static void signsWithCarries() {
        Check.call("no carry", tapeOf(0x45000000, 0, 0x00010000, 0, 0,
                0, 0x8000, 0x7FFF, 0, 0), gate -> gate.sign(32, 20), 0);
        Check.call("one carry", tapeOf(0x45000000, 0, 0x00010000, 0, 0,
                0, 0x8000, 0x8000, 0, 0), gate -> gate.sign(32, 20), 65534, "tape 20", "tape 21");
        Check.call("a carry of a carry", tapeOf(0x45000000, 0, 0x00010000, 0, 0,
                0, 0xFFFFFFFF, 0x00000001, 0, 0), gate -> gate.sign(32, 20), 65534,
                "tape 20", "tape 21");
        Consumer<TransitGate> ones = gate -> {
            gate.feed(0x45FFFFFF, -1, 0xFF11FFFF, -1, -1);
            for (int i = 20; i < ROOM; i += 20) {
                gate.feed(-1, -1, -1, -1, -1);
            }
        };
        // All words are 65535, which adds nothing: the length 1580 and the protocol 17 are left.
        Check.due("all ones", sumOf(ones, ROOM, 20, 26), 65535 - 1580 - 17);
        signs(ones, ROOM, 20, 26);
    }

    /** Promise 13: "the length being that of the part", whatever the header tells. */
    private static void signsByTheLengthOfThePart() {
        TransitGate gate = new TransitGate();
        sixOnTape(gate);
        int once = gate.sign(80, 46);
        gate.bend(4, 0xFF);
        gate.bend(5, 0xFF);
        Check.due("IPv6's payload length is no matter", gate.sign(80, 46), once);
        TransitGate other = new TransitGate();
        fourOnTape(other);
        once = other.sign(60, 26);
        other.bend(2, 0xFF);
        other.bend(3, 0xFF);
        Check.due("IPv4's total length is no matter", other.sign(60, 26), once);
        other.bend(0, 0x0F);
        Check.due("nor its words", other.sign(60, 26), once);
    }

    /** Promise 14: "-1, and nothing happens, if the TAPE has fewer than 20 bytes." */
    private static void signsHeadsOfTooFew() {
        Check.call("no byte", Scenes::fresh, gate -> gate.signHead(), -1);
        Check.call("no byte, in use", Scenes::busy, gate -> gate.signHead(), -1);
        Check.call("twenty bytes", tapeOf(0x45000000, 0, 0, 0, 0), gate -> gate.signHead(), 0xBAFF,
                "tape 10", "tape 11");
    }

    /** Promise 14: "(bytes 10 and 11) .. is made what it must be: it". */
    private static void signsHeads() {
        Check.call("sixty bytes", gate -> {
            fourOnTape(gate);
            gate.bend(10, 0x5A);
            gate.bend(11, 0xA5);
        }, gate -> gate.signHead(),
                65535 - (0x4500 + 0x3C + 0x4011 + 0x0102 + 0x0304 + 0x0506 + 0x0708),
                "tape 10", "tape 11");
        TransitGate gate = new TransitGate();
        fourOnTape(gate);
        int once = gate.signHead();
        Check.due("signed again", gate.signHead(), once);
        gate.bend(20, 0xFF);
        Check.due("byte 20 is not of it", gate.signHead(), once);
        gate.bend(19, 1);
        Check.due("byte 19 is", gate.signHead() == once, false);
    }

    /** Terms: a header's CHECKSUM may be 0, and is 65535 of nothing but zeros. */
    private static void signsHeadsAtTheEnds() {
        Check.call("0 stays 0", tapeOf(0x45000000, 0, 0x00001234, 0xBAFF0000, 0),
                gate -> gate.signHead(), 0, "tape 10", "tape 11");
        Check.call("1", tapeOf(0x45000000, 0, 0x00001234, 0xBAFE0000, 0),
                gate -> gate.signHead(), 1, "tape 10", "tape 11");
        Check.call("of zeros", tapeOf(0, 0, 0, 0, 0), gate -> gate.signHead(), 65535,
                "tape 10", "tape 11");
        Check.call("of ones", tapeOf(-1, -1, -1, -1, -1), gate -> gate.signHead(), 0,
                "tape 10", "tape 11");
    }
}
