/** Promises 15 to 19: time, bindings, sessions and their states, and what is counted. */
public final class TableTest {
    private static final int FAR = Packets.FAR;
    private static final int POOL = Packets.POOL;
    private static final int TABLE = -15;

    public static void main(String[] args) {
        ticks();
        ends();
        bindingsGo();
        numbersAfterSomeWent();
        tellings();
        ports();
        portsAreUsedAgain();
        portsOfEachProtocol();
        poolAddresses();
        poolAddressOfAKnownHost();
        states();
        mostBindings();
        mostSessions();
        counts();
        hairpin();
        Check.end();
    }

    private static int udp(TransitGate gate, int host, int port, int far) {
        return Packets.inside(gate, Packets.six(host, far, 17, Packets.udp(port, 53)));
    }

    private static int ping(TransitGate gate, int host, int identifier, int far) {
        return Packets.inside(gate, Packets.six(host, far, 58, Packets.echo(128, identifier)));
    }

    private static int tcp(TransitGate gate, int host, int port, int flags) {
        return Packets.inside(gate, Packets.six(host, FAR, 6, Packets.tcp(port, 80, flags)));
    }

    private static int tcpBack(TransitGate gate, int far, int port, int flags) {
        return Packets.outside(gate, Packets.four(far, POOL, 6, Packets.tcp(80, port, flags)));
    }

    private static void ticks() {
        TransitGate gate = new TransitGate();
        Check.due("tick below 0", gate.tick(-1), -1);
        Check.due("tick above", gate.tick(10001), -1);
        Check.due("least tick", gate.tick(Integer.MIN_VALUE), -1);
        Check.due("greatest tick", gate.tick(Integer.MAX_VALUE), -1);
        Check.due("no time", gate.count(6), 0);
        Check.due("tick 0", gate.tick(0), 0);
        Check.due("tick 1", gate.tick(1), 0);
        Check.due("tick 10000", gate.tick(10000), 0);
        Check.due("time", gate.count(6), 10001);
        for (int i = 0; i < 400; i++) {
            gate.tick(10000);
        }
        Check.due("a long time", gate.count(6), 4010001);
    }

    private static void endDue(String what, TransitGate gate, int life) {
        Check.due(what + " less", gate.session(0, 4), life);
        Check.due(what + " not yet", gate.tick(life - 1), 0);
        Check.due(what + " one left", gate.session(0, 4), 1);
        Check.due(what + " no time", gate.tick(0), 0);
        Check.due(what + " gone", gate.tick(1), 1);
        Check.due(what + " sessions", gate.count(1), 0);
        Check.due(what + " bindings", gate.count(0), 0);
    }

    private static void ends() {
        TransitGate gate = Packets.gate();
        gate.tick(77);
        udp(gate, 1, 5000, FAR);
        endDue("UDP", gate, 300);
        ping(gate, 1, 5000, FAR);
        endDue("ICMP", gate, 60);
        tcp(gate, 1, 5000, Packets.SYN);
        endDue("TCP", gate, 240);
        udp(gate, 1, 5000, FAR);
        gate.tick(299);
        udp(gate, 1, 5000, FAR);
        endDue("UDP anew", gate, 300);
        udp(gate, 1, 5000, FAR);
        gate.tick(200);
        Packets.outside(gate, Packets.four(FAR, POOL, 17, Packets.udp(53, 1024)));
        endDue("UDP anew from outside", gate, 300);
        ping(gate, 1, 5000, FAR);
        gate.tick(30);
        Packets.outside(gate, Packets.four(FAR, POOL, 1, Packets.echo(0, 0)));
        endDue("ICMP anew from outside", gate, 60);
    }

    private static void bindingsGo() {
        TransitGate gate = Packets.gate();
        udp(gate, 1, 5000, FAR);
        gate.tick(100);
        udp(gate, 1, 5000, FAR + 1);
        Check.due("two sessions of it", gate.binding(0, 4), 2);
        Check.due("the first goes", gate.tick(200), 1);
        Check.due("the binding stays", gate.count(0), 1);
        Check.due("one session of it", gate.binding(0, 4), 1);
        Check.due("the second goes", gate.tick(100), 1);
        Check.due("the binding goes", gate.count(0), 0);
        byte[] back = Packets.four(FAR, POOL, 17, Packets.udp(53, 1024));
        Check.due("nobody is there", Packets.outside(gate, back), TABLE);
    }

    private static void numbersAfterSomeWent() {
        TransitGate gate = Packets.gate();
        ping(gate, 1, 11, FAR);
        udp(gate, 2, 5000, FAR);
        ping(gate, 3, 12, FAR);
        udp(gate, 4, 5002, FAR);
        udp(gate, 2, 5000, FAR + 1);
        Check.due("before", gate.session(4, 0), 1);
        Check.due("two pings go", gate.tick(60), 2);
        Check.due("bindings left", gate.count(0), 2);
        Check.due("first inner", gate.inner(0, true), 2);
        Check.due("second inner", gate.inner(1, true), 4);
        int[] owners = {0, 1, 0};
        int[] fars = {FAR, FAR, FAR + 1};
        for (int i = 0; i < 3; i++) {
            Check.due("owner of " + i, gate.session(i, 0), owners[i]);
            Check.due("far of " + i, gate.session(i, 1), fars[i]);
        }
        Check.due("no fourth", gate.session(3, 0), -1);
    }

    private static void tellings() {
        TransitGate gate = new TransitGate();
        gate.prefix(Packets.SITE, 0, 96);
        gate.pool(Packets.ip(192, 0, 2, 1));
        gate.pool(POOL);
        udp(gate, 9, 999, FAR);
        byte[] part = Packets.tcp(65535, 65534, Packets.SYN);
        long high = 0xfedcba9876543210L;
        long low = 0x8123456789abcdefL;
        Packets.inside(gate, Packets.six(high, low, Packets.SITE, 0xdf000009L, 0, 9, 6, part));
        int[] binding = {6, 65535, 1, 1025, 1};
        int[] session = {1, 0xdf000009, 65534, 1, 240};
        for (int what = 0; what < 5; what++) {
            Check.due("binding " + what, gate.binding(1, what), binding[what]);
            Check.due("session " + what, gate.session(1, what), session[what]);
        }
        Check.due("inner high", gate.inner(1, false), high);
        Check.due("inner low", gate.inner(1, true), low);
        int[] wrong = {-1, 5, Integer.MIN_VALUE, Integer.MAX_VALUE};
        for (int each : wrong) {
            Check.due("binding what " + each, gate.binding(0, each), -1);
            Check.due("session what " + each, gate.session(0, each), -1);
            Check.due("binding of " + each, gate.binding(each, 0), -1);
            Check.due("session of " + each, gate.session(each, 0), -1);
            Check.due("inner of " + each, gate.inner(each, false), 0);
        }
        Check.due("binding behind", gate.binding(2, 0), -1);
        Check.due("session behind", gate.session(2, 0), -1);
        Check.due("inner behind", gate.inner(2, true), 0);
    }

    private static void ports() {
        int[][] cases = {
            {0, 2}, {2, 4}, {1, 1}, {3, 3}, {1022, 6}, {1023, 5},
            {1024, 1024}, {1025, 1025}, {65535, 1027}, {65534, 1026}, {1026, 1028}
        };
        TransitGate gate = Packets.gate();
        for (int i = 0; i < cases.length; i++) {
            udp(gate, 1, cases[i][0], FAR);
            Check.due("inner port of " + i, gate.binding(i, 1), cases[i][0]);
            Check.due("outer port of " + cases[i][0], gate.binding(i, 3), cases[i][1]);
            Check.due("in the packet", gate.word(5) >>> 16, cases[i][1]);
        }
        TransitGate pings = Packets.gate();
        int[] identifiers = {65535, 0, 7};
        for (int i = 0; i < identifiers.length; i++) {
            ping(pings, 1, identifiers[i], FAR);
            Check.due("outer identifier " + i, pings.binding(i, 3), i);
            Check.due("identifier in the packet", pings.word(6) >>> 16, i);
        }
    }

    private static void portsAreUsedAgain() {
        TransitGate gate = Packets.gate();
        udp(gate, 1, 5000, FAR);
        gate.tick(10);
        udp(gate, 2, 5000, FAR);
        Check.due("the second", gate.binding(1, 3), 1026);
        gate.tick(290);
        udp(gate, 3, 5000, FAR);
        Check.due("the first is free again", gate.binding(1, 3), 1024);
        udp(gate, 4, 5000, FAR);
        Check.due("then the third", gate.binding(2, 3), 1028);
        udp(gate, 2, 5000, FAR + 1);
        Check.due("a known one keeps its own", gate.count(0), 3);
    }

    private static void portsOfEachProtocol() {
        TransitGate gate = Packets.gate();
        udp(gate, 1, 5000, FAR);
        tcp(gate, 1, 5000, Packets.SYN);
        ping(gate, 1, 5000, FAR);
        Check.due("three bindings", gate.count(0), 3);
        Check.due("of UDP", gate.binding(0, 3), 1024);
        Check.due("of TCP", gate.binding(1, 3), 1024);
        Check.due("of ICMP", gate.binding(2, 3), 0);
    }

    private static TransitGate wideGate() {
        TransitGate gate = Packets.gate();
        for (int i = 1; i < 4; i++) {
            gate.pool(POOL + i);
        }
        return gate;
    }

    private static void poolAddresses() {
        TransitGate gate = wideGate();
        for (int host = 0; host < 10; host++) {
            udp(gate, host + 1, 5000, FAR);
            Check.due("pool of host " + host, gate.binding(host, 2), host % 4);
            Check.due("port of host " + host, gate.binding(host, 3), 1024 + host / 4 * 2);
            Check.due("address of host " + host, gate.word(3), POOL + host % 4);
        }
        TransitGate busy = wideGate();
        ping(busy, 1, 1, FAR);
        udp(busy, 1, 5000, FAR);
        tcp(busy, 2, 5000, Packets.SYN);
        udp(busy, 3, 5000, FAR);
        udp(busy, 4, 5000, FAR);
        udp(busy, 5, 5000, FAR);
        Check.due("the first host again", busy.binding(1, 2), 0);
        Check.due("fewest of all protocols", busy.binding(2, 2), 1);
        Check.due("of several the first", busy.binding(5, 2), 1);
        TransitGate late = Packets.gate();
        udp(late, 1, 5000, FAR);
        late.pool(POOL + 1);
        udp(late, 2, 5000, FAR);
        Check.due("one that came later", late.binding(1, 2), 1);
    }

    private static void poolAddressOfAKnownHost() {
        TransitGate gate = wideGate();
        udp(gate, 1, 5000, FAR);
        udp(gate, 2, 5000, FAR);
        for (int port = 5001; port < 5005; port++) {
            udp(gate, 2, port, FAR);
        }
        tcp(gate, 2, 5000, Packets.SYN);
        ping(gate, 2, 5000, FAR);
        for (int i = 1; i < gate.count(0); i++) {
            Check.due("known host " + i, gate.binding(i, 2), 1);
        }
        byte[] part = Packets.udp(5000, 53);
        Packets.inside(gate, Packets.six(
                Packets.HOME + 1, 2, Packets.SITE, FAR, 0, 64, 17, part));
        Check.due("another host by its high half", gate.binding(8, 2), 2);
    }

    /** Brings a session of a new gate to a state, and tells its number. */
    private static int bring(TransitGate gate, int state) {
        tcp(gate, 1, 5000, Packets.SYN);
        if (state == 2) {
            tcpBack(gate, FAR + 1, 1024, Packets.SYN);
            return 1;
        }
        if (state >= 3) {
            tcpBack(gate, FAR, 1024, Packets.SYN | Packets.ACK);
        }
        if (state == 4 || state == 6) {
            tcpBack(gate, FAR, 1024, Packets.FIN | Packets.ACK);
        }
        if (state == 5 || state == 6) {
            tcp(gate, 1, 5000, Packets.FIN);
        }
        if (state == 7) {
            tcp(gate, 1, 5000, Packets.RST);
        }
        return 0;
    }

    private static void stateDue(int state, int event, int next) {
        int[] flags = {Packets.ACK, Packets.FIN | Packets.ACK, Packets.SYN | Packets.FIN,
            Packets.RST | Packets.SYN | Packets.FIN};
        int[] lives = {0, 240, 6, 7200, 7200, 7200, 240, 240};
        boolean fromInside = event < 4;
        TransitGate gate = Packets.gate();
        int number = bring(gate, state);
        String what = "state " + state + ", event " + event;
        Check.due(what + ": before", gate.session(number, 3), state);
        gate.tick(5);
        int far = number == 1 ? FAR + 1 : FAR;
        byte[] packet = fromInside
                ? Packets.six(1, far, 6, Packets.tcp(5000, 80, flags[event]))
                : Packets.four(far, POOL, 6, Packets.tcp(80, 1024, flags[event - 4]));
        int many = fromInside ? Packets.inside(gate, packet) : Packets.outside(gate, packet);
        Check.due(what + ": it is made", many, fromInside ? 40 : 60);
        Check.due(what, gate.session(number, 3), next < 0 ? state : next);
        int left = next < 0 ? lives[state] - 5 : lives[next];
        Check.due(what + ": end", gate.session(number, 4), left);
        Check.due(what + ": no other session", gate.count(1), number + 1);
    }

    private static void states() {
        // For each state: PLAIN, FIN, SYN, RST from inside, then from outside; -1 changes nothing.
        int[][] table = {
            {-1, -1, 1, -1, -1, -1, 3, -1},
            {-1, -1, 3, -1, -1, -1, -1, -1},
            {3, 5, 3, 7, 3, 4, 3, 7},
            {4, 6, 4, 4, 4, 4, 4, 4},
            {5, 5, 5, 5, 5, 6, 5, 5},
            {-1, -1, -1, -1, -1, -1, -1, -1},
            {3, 3, 3, -1, 3, 3, 3, -1}
        };
        for (int state = 1; state <= 7; state++) {
            for (int event = 0; event < 8; event++) {
                stateDue(state, event, table[state - 1][event]);
            }
        }
    }

    private static void mostBindings() {
        TransitGate gate = Packets.gate();
        for (int i = 0; i < 64; i++) {
            Check.due("binding " + i, udp(gate, 1, 5000 + i, FAR), 28);
        }
        Check.due("no room", udp(gate, 1, 9000, FAR), TABLE);
        Check.due("for no protocol", ping(gate, 1, 9000, FAR), TABLE);
        Check.due("64 bindings", gate.count(0), 64);
        Check.due("nothing is made", gate.count(1), 64);
        Check.due("no identification", gate.count(16), 65);
        Check.due("a known one", udp(gate, 1, 5000, FAR + 1), 28);
        Check.due("its session", gate.count(1), 65);
        Check.due("the last port", gate.binding(63, 3), 1025 + 2 * 31);
        Check.due("all but one go", gate.tick(300), 65);
        Check.due("room again", udp(gate, 1, 9000, FAR), 28);
    }

    /** Sessions by twos: a packet to the gate's own address comes back from outside. */
    private static void mostSessions() {
        TransitGate gate = Packets.gate();
        udp(gate, 1, 5000, FAR);
        byte[] target = new byte[0];
        for (int i = 0; i < 63; i++) {
            byte[] part = Packets.udp(5002, 1024);
            byte[] packet = Packets.six(2 + i, POOL, 17, part);
            Check.due("there " + i, Packets.inside(gate, packet), 28);
            gate.take();
            Check.due("and back " + i, gate.outside(28), 48);
            target = packet;
        }
        Check.due("127 sessions", gate.count(1), 127);
        Check.due("64 bindings", gate.count(0), 64);
        Check.due("the last one", udp(gate, 1, 5000, FAR + 1), 28);
        Check.due("128 sessions", gate.count(1), 128);
        Check.due("no room from inside", udp(gate, 1, 5000, FAR + 2), TABLE);
        byte[] back = Packets.four(FAR + 2, POOL, 17, Packets.udp(53, 1024));
        Check.due("no room from outside", Packets.outside(gate, back), TABLE);
        Check.due("still 128", gate.count(1), 128);
        Check.due("a known one", Packets.inside(gate, target), 28);
        back = Packets.four(FAR + 1, POOL, 17, Packets.udp(53, 1024));
        Check.due("a known one from outside", Packets.outside(gate, back), 48);

        noRoomForASessionMakesNoBinding();
    }

    private static void noRoomForASessionMakesNoBinding() {
        TransitGate gate = Packets.gate();
        // Fewer bindings than there may be, but sessions by twos up to the last one.
        udp(gate, 1, 5000, FAR);
        for (int i = 0; i < 62; i++) {
            byte[] packet = Packets.six(2, POOL, 17, Packets.udp(6000 + i, 1024));
            Packets.inside(gate, packet);
            gate.take();
            gate.outside(28);
        }
        Check.due("63 bindings", gate.count(0), 63);
        Check.due("125 sessions", gate.count(1), 125);
        for (int i = 1; i <= 3; i++) {
            udp(gate, 1, 5000, FAR + i);
        }
        Check.due("128 sessions", gate.count(1), 128);
        Check.due("a binding has room, its session has none", udp(gate, 3, 5000, FAR), TABLE);
        Check.due("no binding is made", gate.count(0), 63);
    }

    private static void counts() {
        TransitGate gate = Packets.gate();
        udp(gate, 1, 5000, FAR);
        udp(gate, 1, 5000, FAR + 1);
        Packets.outside(gate, Packets.four(FAR, POOL, 17, Packets.udp(53, 1024)));
        tcp(gate, 1, 1, Packets.ACK);
        gate.feed(1, 2, 3, 4, 5);
        gate.tick(9);
        int[] want = {1, 2, 1, 96, 20, 48, 9, 3, -1, -1, 0, 0, 0, 0, 0, 1, 3, -1};
        for (int what = 0; what < want.length; what++) {
            Check.due("count " + what, gate.count(what), want[what]);
        }
        Check.due("count -1", gate.count(-1), -1);
        Check.due("least", gate.count(Integer.MIN_VALUE), -1);
        Check.due("greatest", gate.count(Integer.MAX_VALUE), -1);
    }

    private static void hairpin() {
        TransitGate gate = Packets.gate();
        udp(gate, 1, 5000, FAR);
        byte[] there = Packets.six(2, POOL, 17, Packets.udp(6001, 1024, (byte) 4));
        Check.due("out", Packets.inside(gate, there), 29);
        Check.due("taken", gate.take(), 29);
        Check.due("in again", gate.outside(29), 49);
        byte[] want = Packets.six(Packets.SITE, POOL, Packets.HOME, 1, 0x1f, 62, 17,
                Packets.udp(1025, 5000, (byte) 4));
        Check.same("turned twice", Packets.out(gate), want);
        Check.due("sessions", gate.count(1), 3);
        Check.due("of the first binding", gate.session(2, 0), 0);
        Check.due("its far address", gate.session(2, 1), POOL);
        Check.due("its far port", gate.session(2, 2), 1025);
    }
}
