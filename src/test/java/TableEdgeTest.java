import java.util.function.Consumer;

/**
 * The boundary cases of promises 15 to 19 and of the terms BINDINGS, SESSIONS and STATES; above
 * each test stands the sentence that it holds to.
 */
public final class TableEdgeTest {
    private static final int LEAST = Integer.MIN_VALUE;
    private static final int GREATEST = Integer.MAX_VALUE;
    private static final int FAR = Packets.FAR;
    private static final int POOL = Packets.POOL;
    private static final int TABLE = 15;
    private static final int[] LIVES = {0, 240, 6, 7200, 7200, 7200, 240, 240};

    public static void main(String[] args) {
        refusedTicks();
        leastAndGreatestTick();
        ticksThatEndSessions();
        endsOfOpenSessions();
        endsOfEachState();
        endsFarBehind();
        endsAnewAtTheLastTick();
        bindingsWithoutSessions();
        numbersLeftOut();
        noBindingOfThatNumber();
        otherWhatOfBindings();
        firstAndLastBinding();
        innerOfNone();
        noSessionOfThatNumber();
        otherWhatOfSessions();
        firstAndLastSession();
        farAddressesBelowZero();
        otherCounts();
        countsOfDrops();
        countOfMade();
        bindingsUpToTheMost();
        sessionsUpToTheMost();
        roomWhenSomeEnd();
        sameInnerOnce();
        sameInnerOfEachProtocol();
        poolAddressOfTheInner();
        poolAddressOfTheFewest();
        lowPorts();
        highPorts();
        identifiers();
        leastFreePort();
        portsOfEachPoolAddress();
        portsUpToTheMost();
        farPortsOfIcmp();
        sessionsByTheFarOne();
        flagsInOrder();
        statesAndEvents();
        synAlone();
        Check.end();
    }

    private static void tickDue(int n, int gone, String... changes) {
        Check.call("tick " + n, Scenes::busyWithTape, gate -> gate.tick(n), gone, changes);
    }

    /** Promise 15: "-1 if n is below 0 or above 10000". */
    private static void refusedTicks() {
        int[] refused = {LEAST, -10000, -2, -1, 10001, 10002, 65536, GREATEST};
        for (int n : refused) {
            tickDue(n, -1);
            Check.call("tick " + n + " at first", Scenes::fresh, gate -> gate.tick(n), -1);
        }
    }

    /** Promise 15: 0 is not below 0, 10000 is not above 10000. */
    private static void leastAndGreatestTick() {
        tickDue(0, 0);
        Check.call("tick 0 at first", Scenes::fresh, gate -> gate.tick(0), 0);
        Check.call("tick 1 at first", Scenes::fresh, gate -> gate.tick(1), 0, "count 6");
        Check.call("tick 10000 at first", Scenes::fresh, gate -> gate.tick(10000), 0, "count 6");
        TransitGate gate = new TransitGate();
        gate.tick(10000);
        Check.due("time", gate.count(6), 10000);
        gate.tick(9999);
        Check.due("time goes on", gate.count(6), 19999);
    }

    /** Promise 15: "how many SESSIONS are no more by that". */
    private static void ticksThatEndSessions() {
        tickDue(1, 0, "count 6", "session 0 4", "session 1 4", "session 2 4");
        tickDue(54, 0, "count 6", "session 0 4", "session 1 4", "session 2 4");
        tickDue(55, 1, "count 0", "count 1", "count 6", "binding 2", "inner 2", "session 2",
                "session 0 4", "session 1 4");
        tickDue(294, 1, "count 0", "count 1", "count 6", "binding 2", "inner 2", "session 2",
                "session 0 4", "session 1 4");
        // The binding of TCP is the first one then.
        tickDue(295, 2, "count 0", "count 1", "count 6", "binding", "inner", "session");
        TransitGate gate = new TransitGate();
        Scenes.busy(gate);
        gate.tick(295);
        Check.due("the one that is left", gate.binding(0, 0), 6);
        Check.due("not yet", gate.tick(6899), 0);
        Check.due("the last one", gate.tick(1), 1);
        Check.due("none any more", gate.tick(10000), 0);
        tickDue(7194, 2, "count 0", "count 1", "count 6", "binding", "inner", "session");
        tickDue(7195, 3, "count 0", "count 1", "count 6", "binding", "inner", "session");
        tickDue(10000, 3, "count 0", "count 1", "count 6", "binding", "inner", "session");
        Check.call("all of 64", Scenes::fullBindings, each -> each.tick(300), 64,
                "count 0", "count 1", "count 6", "binding", "inner", "session");
        Check.call("all of 128", Scenes::fullSessions, each -> each.tick(300), 128,
                "count 0", "count 1", "count 6", "binding", "inner", "session");
    }

    private static void lives(
            String what, Consumer<TransitGate> scene, int number, int life, int others) {
        TransitGate gate = new TransitGate();
        scene.accept(gate);
        Check.due(what + ": left", gate.session(number, 4), life);
        Check.due(what + ": one tick before", gate.tick(life - 1), 0);
        Check.due(what + ": one left", gate.session(number, 4), 1);
        Check.due(what + ": at its end", gate.tick(1), 1);
        Check.due(what + ": the others", gate.count(1), others);
        TransitGate once = new TransitGate();
        scene.accept(once);
        Check.due(what + ": at once", once.tick(life), 1);
        TransitGate beyond = new TransitGate();
        scene.accept(beyond);
        Check.due(what + ": beyond its end", beyond.tick(life + 1), 1);
    }

    /** Terms: "OPEN: END is TIME and 300 (UDP), 60 (ICMP)", "If TIME reaches END". */
    private static void endsOfOpenSessions() {
        lives("UDP", Scenes::oneOut, 0, 300, 0);
        lives("ICMP", gate -> {
            Scenes.open(gate);
            Scenes.ping(gate, 1, 300, FAR);
        }, 0, 60, 0);
        lives("UDP from outside", gate -> {
            Scenes.oneOut(gate);
            gate.tick(299);
            Scenes.udpBack(gate, FAR, 1024);
        }, 0, 300, 0);
        lives("ICMP from outside", gate -> {
            Scenes.open(gate);
            Scenes.ping(gate, 1, 300, FAR);
            gate.tick(59);
            Scenes.pingBack(gate, FAR, 0);
        }, 0, 60, 0);
    }

    /** Brings TCP to a state: with the first session, but of state 2 with the second. */
    private static void bring(TransitGate gate, int state) {
        Scenes.open(gate);
        Scenes.tcp(gate, 1, 5000, Packets.SYN);
        if (state == 2) {
            Scenes.tcpBack(gate, FAR + 1, 1024, Packets.SYN);
        }
        if (state >= 3) {
            Scenes.tcpBack(gate, FAR, 1024, Packets.SYN);
        }
        if (state == 4 || state == 6) {
            Scenes.tcpBack(gate, FAR, 1024, Packets.FIN);
        }
        if (state == 5 || state == 6) {
            Scenes.tcp(gate, 1, 5000, Packets.FIN);
        }
        if (state == 7) {
            Scenes.tcp(gate, 1, 5000, Packets.RST);
        }
    }

    /** Terms: "TIME and 240 (1, 6, 7), 6 (2), 7200 (3, 4, 5)", "If TIME reaches END". */
    private static void endsOfEachState() {
        for (int state = 1; state <= 7; state++) {
            int each = state;
            int number = state == 2 ? 1 : 0;
            TransitGate gate = new TransitGate();
            bring(gate, state);
            Check.due("state " + state, gate.session(number, 3), state);
            lives("state " + state, other -> bring(other, each), number, LIVES[state], number);
        }
    }

    /** Terms: "END (a TIME)": it counts from the TIME that is, however late. */
    private static void endsFarBehind() {
        for (int state = 1; state <= 7; state++) {
            int each = state;
            int number = state == 2 ? 1 : 0;
            lives("late, state " + state, gate -> {
                for (int i = 0; i < 300; i++) {
                    gate.tick(10000);
                }
                bring(gate, each);
            }, number, LIVES[state], number);
        }
    }

    /** Terms: "END anew", on the last tick before TIME reaches END, and one tick late. */
    private static void endsAnewAtTheLastTick() {
        TransitGate gate = new TransitGate();
        Scenes.oneOut(gate);
        gate.tick(299);
        Scenes.udp(gate, 1, 5000, FAR);
        Check.due("anew", gate.session(0, 4), 300);
        Check.due("still one", gate.count(1), 1);
        gate.tick(300);
        Check.due("too late from outside", Scenes.udpBack(gate, FAR, 1024), -TABLE);
        Scenes.udp(gate, 1, 5000, FAR);
        Check.due("a new one from inside", gate.count(1), 1);
        TransitGate tcp = new TransitGate();
        bring(tcp, 3);
        tcp.tick(7199);
        Check.due("TCP in time", Scenes.tcp(tcp, 1, 5000, Packets.ACK), 40);
        tcp.tick(7200);
        Check.due("TCP too late", Scenes.tcp(tcp, 1, 5000, Packets.ACK), -TABLE);
    }

    /** Terms: "a BINDING without SESSIONS is no more": not before its last one is gone. */
    private static void bindingsWithoutSessions() {
        TransitGate gate = new TransitGate();
        Scenes.oneOut(gate);
        for (int i = 1; i <= 3; i++) {
            gate.tick(50);
            Scenes.udp(gate, 1, 5000, FAR + i);
        }
        gate.tick(149);
        for (int left = 4; left >= 1; left--) {
            Check.due("sessions of it", gate.binding(0, 4), left);
            Check.due("one goes", gate.tick(1), 1);
            Check.due("bindings", gate.count(0), left > 1 ? 1 : 0);
            gate.tick(49);
        }
        Check.due("it is no more", gate.binding(0, 4), -1);
        Check.due("nor its address", gate.inner(0, true), 0);
    }

    /** Terms: "numbered in the order in which they were made, those that are no more left out". */
    private static void numbersLeftOut() {
        TransitGate gate = new TransitGate();
        Scenes.open(gate);
        int[] hosts = {1, 2, 3, 4, 5};
        for (int host : hosts) {
            if (host % 2 == 1) {
                Scenes.ping(gate, host, 300, FAR);
            } else {
                Scenes.udp(gate, host, 5000, FAR);
            }
        }
        Check.due("the first, a middle and the last go", gate.tick(60), 3);
        Check.due("two left", gate.count(0), 2);
        Check.due("number 0", gate.inner(0, true), 2);
        Check.due("number 1", gate.inner(1, true), 4);
        Check.due("session 0", gate.session(0, 0), 0);
        Check.due("session 1", gate.session(1, 0), 1);
        Scenes.ping(gate, 6, 300, FAR);
        Check.due("a new one is behind them", gate.inner(2, true), 6);
        Check.due("so is its session", gate.session(2, 0), 2);
        Scenes.udp(gate, 2, 5000, FAR + 1);
        Check.due("a session of the first is last", gate.session(3, 0), 0);
        Check.due("and has its far address", gate.session(3, 1), FAR + 1);
    }

    /** Promise 16: "-1: no such BINDING". */
    private static void noBindingOfThatNumber() {
        int[] none = {LEAST, -3, -1, 3, 4, 63, 64, GREATEST};
        for (int i : none) {
            for (int each = 0; each <= 4; each++) {
                int what = each;
                Check.call("binding " + i, Scenes::busy, gate -> gate.binding(i, what), -1);
            }
        }
        Check.call("of none", Scenes::open, gate -> gate.binding(0, 0), -1);
        Check.call("behind 64", Scenes::fullBindings, gate -> gate.binding(64, 0), -1);
        Check.call("before 64", Scenes::fullBindings, gate -> gate.binding(-1, 0), -1);
    }

    /** Promise 16: "-1: .. another what". */
    private static void otherWhatOfBindings() {
        int[] others = {LEAST, -1, 5, 6, 16, 256, GREATEST};
        for (int what : others) {
            for (int i = 0; i < 3; i++) {
                int number = i;
                Check.call("what " + what, Scenes::busy, gate -> gate.binding(number, what), -1);
            }
        }
    }

    /** Promise 16: the first and the last of one and of 64. */
    private static void firstAndLastBinding() {
        Check.call("the first", Scenes::busy, gate -> gate.binding(0, 0), 17);
        Check.call("the last", Scenes::busy, gate -> gate.binding(2, 0), 1);
        Check.call("the last port", Scenes::fullBindings, gate -> gate.binding(63, 1), 5063);
        Check.call("the last outer port", Scenes::fullBindings, gate -> gate.binding(63, 3), 1087);
        Check.call("all sessions", Scenes::fullSessions, gate -> gate.binding(0, 4), 128);
        TransitGate gate = new TransitGate();
        gate.prefix(Packets.SITE, 0, 96);
        for (int i = 0; i < 4; i++) {
            gate.pool(POOL + i);
            Scenes.udp(gate, 1 + i, i == 3 ? 65535 : 0, FAR);
            Check.due("pool number " + i, gate.binding(i, 2), i);
        }
        Check.due("inner port 0", gate.binding(0, 1), 0);
        Check.due("inner port 65535", gate.binding(3, 1), 65535);
    }

    /** Promise 17: "0 if there is none such". */
    private static void innerOfNone() {
        int[] none = {LEAST, -1, 3, 64, GREATEST};
        for (int i : none) {
            Check.call("high of " + i, Scenes::busy, gate -> gate.inner(i, false), 0);
            Check.call("low of " + i, Scenes::busy, gate -> gate.inner(i, true), 0);
        }
        Check.call("high of none", Scenes::fresh, gate -> gate.inner(0, false), 0);
        Check.call("low of none", Scenes::fresh, gate -> gate.inner(0, true), 0);
        Check.call("behind 64", Scenes::fullBindings, gate -> gate.inner(64, false), 0);
        Check.call("the last of 64", Scenes::fullBindings, gate -> gate.inner(63, false),
                Packets.HOME);
        TransitGate gate = new TransitGate();
        Scenes.open(gate);
        byte[] part = Packets.udp(5000, 53);
        Packets.inside(gate, Packets.six(-1, -1, Packets.SITE, FAR, 0, 64, 17, part));
        Packets.inside(gate, Packets.six(Long.MIN_VALUE, Long.MAX_VALUE, Packets.SITE, FAR, 0, 64,
                17, part));
        Check.due("the greatest high", gate.inner(0, false), -1);
        Check.due("the greatest low", gate.inner(0, true), -1);
        Check.due("another high", gate.inner(1, false), Long.MIN_VALUE);
        Check.due("another low", gate.inner(1, true), Long.MAX_VALUE);
    }

    /** Promise 18: "-1: no such SESSION". */
    private static void noSessionOfThatNumber() {
        int[] none = {LEAST, -3, -1, 3, 4, 127, 128, GREATEST};
        for (int i : none) {
            for (int each = 0; each <= 4; each++) {
                int what = each;
                Check.call("session " + i, Scenes::busy, gate -> gate.session(i, what), -1);
            }
        }
        Check.call("of none", Scenes::open, gate -> gate.session(0, 0), -1);
        Check.call("behind 128", Scenes::fullSessions, gate -> gate.session(128, 0), -1);
        Check.call("before 128", Scenes::fullSessions, gate -> gate.session(-1, 0), -1);
    }

    /** Promise 18: "-1: .. another what". */
    private static void otherWhatOfSessions() {
        int[] others = {LEAST, -1, 5, 6, 16, 256, GREATEST};
        for (int what : others) {
            for (int i = 0; i < 3; i++) {
                int number = i;
                Check.call("what " + what, Scenes::busy, gate -> gate.session(number, what), -1);
            }
        }
    }

    /** Promise 18: the first and the last of three and of 128. */
    private static void firstAndLastSession() {
        Check.call("the first", Scenes::busy, gate -> gate.session(0, 2), 53);
        Check.call("the last", Scenes::busy, gate -> gate.session(2, 0), 2);
        Check.call("the last of 128", Scenes::fullSessions, gate -> gate.session(127, 1),
                FAR + 127);
        Check.call("its binding", Scenes::fullSessions, gate -> gate.session(127, 0), 0);
        Check.call("the last binding of 64", Scenes::fullBindings, gate -> gate.session(63, 0),
                63);
    }

    /** Promise 18: "FAR's address (an int)", "FAR's port", at their ends. */
    private static void farAddressesBelowZero() {
        int[] addresses = {0x01000000, 0x7EFFFFFF, 0x80000000, 0xDFFFFFFF};
        int[] ports = {0, 1, 32768, 65535};
        for (int i = 0; i < 4; i++) {
            TransitGate gate = new TransitGate();
            Scenes.open(gate);
            byte[] part = Packets.udp(5000, ports[i]);
            Packets.inside(gate, Packets.six(1, addresses[i], 17, part));
            Check.due("far address from inside", gate.session(0, 1), addresses[i]);
            Check.due("far port from inside", gate.session(0, 2), ports[i]);
            part = Packets.udp(ports[i], 1024);
            Packets.outside(gate, Packets.four(addresses[3 - i], POOL, 17, part));
            Check.due("far address from outside", gate.session(1, 1), addresses[3 - i]);
            Check.due("far port from outside", gate.session(1, 2), ports[i]);
        }
    }

    /** Promise 19: "-1 for another what". */
    private static void otherCounts() {
        int[] others = {LEAST, -16, -1, 8, 9, 17, 18, 26, 256, 65536, GREATEST};
        for (int what : others) {
            Check.call("count " + what, Scenes::busyWithTape, gate -> gate.count(what), -1);
            Check.call("count " + what + " at first", Scenes::fresh, gate -> gate.count(what), -1);
        }
        int[] known = {3, 3, 2, 96, 40, 60, 5, 4, -1, -1, 0, 0, 0, 0, 0, 0, 4};
        for (int i = 0; i < known.length; i++) {
            int what = i;
            Check.call("count " + what, Scenes::busyWithTape, gate -> gate.count(what),
                    known[what]);
        }
    }

    /** Promise 19: "10 .. 15 how many were DROPPED by that number", from both sides. */
    private static void countsOfDrops() {
        TransitGate gate = new TransitGate();
        Scenes.open(gate);
        byte[] six = Packets.six(1, FAR, 17, Packets.udp(5000, 53));
        byte[] four = Packets.four(FAR, POOL, 17, Packets.udp(53, 1024));
        for (int times = 1; times <= 2; times++) {
            gate.inside(0);
            gate.outside(0);
            Packets.inside(gate, Packets.with(six, 6, 7));
            Packets.outside(gate, Packets.headSigned(Packets.with(four, 9, 7)));
            Packets.inside(gate, Packets.with(six, 41, 7));
            Packets.outside(gate, Packets.with(four, 21, 7));
            Packets.outside(gate, Packets.with(four, 5, 9));
            Packets.inside(gate, Packets.with(six, 7, 1));
            Packets.outside(gate, Packets.headSigned(Packets.with(four, 8, 1)));
            Packets.inside(gate, Packets.six(1, 0, 17, Packets.udp(5000, 53)));
            Packets.outside(gate, Packets.four(FAR, FAR, 17, Packets.udp(53, 1024)));
            Packets.inside(gate, Packets.six(1, FAR, 6, Packets.tcp(5000, 53, Packets.ACK)));
            Packets.outside(gate, four);
            for (int number = 10; number <= 15; number++) {
                Check.due("by " + number, gate.count(number), (number == 12 ? 3 : 2) * times);
            }
        }
        Check.due("none was made", gate.count(7), 0);
        gate.inside(1);
        gate.outside(-1);
        Check.due("what is refused is not dropped", gate.count(10), 4);
    }

    /** Promise 19: "7 packets that were made", from both sides, errors too. */
    private static void countOfMade() {
        TransitGate gate = new TransitGate();
        Check.due("none", gate.count(7), 0);
        Scenes.oneOut(gate);
        Check.due("one", gate.count(7), 1);
        Scenes.udpBack(gate, FAR, 1024);
        Check.due("two", gate.count(7), 2);
        byte[] within = Packets.four(POOL, FAR, 17, Packets.udp(1024, 53));
        Packets.outside(gate, Packets.four(FAR, POOL, 1, Packets.error(3, 1, 0, within)));
        Check.due("three", gate.count(7), 3);
        gate.outside(0);
        Check.due("no drop", gate.count(7), 3);
    }

    /** Terms: "BINDINGS (64 at most)". */
    private static void bindingsUpToTheMost() {
        TransitGate gate = new TransitGate();
        Scenes.bindings(gate, 63);
        Check.due("63", gate.count(0), 63);
        Check.due("the 64th", Scenes.udp(gate, 1, 5063, FAR), 28);
        Check.due("64", gate.count(0), 64);
        Check.due("a 65th", Scenes.udp(gate, 1, 5064, FAR), -TABLE);
        Check.due("64 stay", gate.count(0), 64);
        Check.due("64 sessions", gate.count(1), 64);
    }

    /** Terms: "SESSIONS (128 at most)". */
    private static void sessionsUpToTheMost() {
        TransitGate gate = new TransitGate();
        Scenes.sessions(gate, 127);
        Check.due("127", gate.count(1), 127);
        Check.due("the 128th", Scenes.udpBack(gate, FAR + 127, 1024), 48);
        Check.due("128", gate.count(1), 128);
        Check.due("a 129th from outside", Scenes.udpBack(gate, FAR + 128, 1024), -TABLE);
        Check.due("a 129th from inside", Scenes.udp(gate, 1, 5000, FAR + 128), -TABLE);
        Check.due("128 stay", gate.count(1), 128);
        Check.due("the last one goes on", Scenes.udp(gate, 1, 5000, FAR + 127), 28);
    }

    /** Terms: "no room" is over when a SESSION, and a BINDING with it, is no more. */
    private static void roomWhenSomeEnd() {
        TransitGate gate = new TransitGate();
        Scenes.open(gate);
        Scenes.ping(gate, 9, 300, FAR);
        for (int i = 0; i < 63; i++) {
            Scenes.udp(gate, 1, 5000 + i, FAR);
        }
        Check.due("64 bindings", gate.count(0), 64);
        gate.tick(59);
        Check.due("no room yet", Scenes.udp(gate, 2, 5000, FAR), -TABLE);
        Check.due("one goes", gate.tick(1), 1);
        Check.due("room for one", Scenes.udp(gate, 2, 5000, FAR), 28);
        Check.due("not for two", Scenes.udp(gate, 2, 5001, FAR), -TABLE);
        Check.due("it is the last", gate.inner(63, true), 2);

        TransitGate full = new TransitGate();
        Scenes.open(full);
        Scenes.ping(full, 9, 300, FAR);
        Scenes.udp(full, 1, 5000, FAR);
        for (int i = 1; i < 127; i++) {
            Scenes.udpBack(full, FAR + i, 1024);
        }
        Check.due("128 sessions", full.count(1), 128);
        full.tick(59);
        Check.due("no room yet", Scenes.udpBack(full, FAR + 200, 1024), -TABLE);
        Check.due("one goes", full.tick(1), 1);
        Check.due("room for one", Scenes.udpBack(full, FAR + 200, 1024), 48);
        Check.due("not for two", Scenes.udpBack(full, FAR + 201, 1024), -TABLE);
    }

    /** Terms: "No two of one protocol have the same INNER". */
    private static void sameInnerOnce() {
        TransitGate gate = new TransitGate();
        Scenes.oneOut(gate);
        Scenes.udp(gate, 1, 5000, FAR);
        Scenes.udp(gate, 1, 5000, FAR + 1);
        Packets.inside(gate, Packets.six(1, FAR, 17, Packets.udp(5000, 54)));
        Check.due("one binding", gate.count(0), 1);
        Check.due("three sessions", gate.count(1), 3);
        Scenes.udp(gate, 1, 5001, FAR);
        Check.due("another port", gate.count(0), 2);
        Scenes.udp(gate, 2, 5000, FAR);
        Check.due("another low half", gate.count(0), 3);
        byte[] part = Packets.udp(5000, 53);
        Packets.inside(gate, Packets.six(Packets.HOME + 1, 1, Packets.SITE, FAR, 0, 64, 17, part));
        Check.due("another high half", gate.count(0), 4);
    }

    /** Terms: "No two of one protocol": of two protocols they have. */
    private static void sameInnerOfEachProtocol() {
        TransitGate gate = new TransitGate();
        Scenes.open(gate);
        Scenes.udp(gate, 1, 1025, FAR);
        Scenes.tcp(gate, 1, 1025, Packets.SYN);
        Scenes.ping(gate, 1, 1025, FAR);
        int[] protocols = {17, 6, 1};
        int[] outer = {1025, 1025, 0};
        for (int i = 0; i < 3; i++) {
            Check.due("protocol", gate.binding(i, 0), protocols[i]);
            Check.due("inner port", gate.binding(i, 1), 1025);
            Check.due("outer port", gate.binding(i, 3), outer[i]);
        }
    }

    private static TransitGate wideGate() {
        TransitGate gate = new TransitGate();
        gate.prefix(Packets.SITE, 0, 96);
        for (int i = 0; i < 4; i++) {
            gate.pool(POOL + i);
        }
        return gate;
    }

    /** Terms: "the pool address is that of the first BINDING with that INNER address". */
    private static void poolAddressOfTheInner() {
        TransitGate gate = wideGate();
        Scenes.ping(gate, 1, 1, FAR);
        Scenes.ping(gate, 2, 1, FAR);
        Scenes.udp(gate, 2, 5000, FAR);
        Scenes.tcp(gate, 2, 5000, Packets.SYN);
        Check.due("of ICMP's", gate.binding(2, 2), 1);
        Check.due("of any protocol", gate.binding(3, 2), 1);
        gate.tick(60);
        Check.due("two are left", gate.count(0), 2);
        Scenes.ping(gate, 2, 9, FAR);
        Check.due("of the first that is left", gate.binding(2, 2), 1);
        gate.tick(240);
        Check.due("none is left", gate.count(0), 0);
        Scenes.udp(gate, 2, 5000, FAR);
        Check.due("without one the first again", gate.binding(0, 2), 0);
        byte[] part = Packets.udp(5000, 53);
        Packets.inside(gate, Packets.six(Packets.HOME + 1, 2, Packets.SITE, FAR, 0, 64, 17, part));
        Check.due("another high half is another address", gate.binding(1, 2), 1);
    }

    /** Terms: "without one that to which the fewest BINDINGS have, of several the first". */
    private static void poolAddressOfTheFewest() {
        TransitGate gate = wideGate();
        for (int host = 1; host <= 9; host++) {
            Scenes.udp(gate, host, 5000, FAR);
            Check.due("host " + host, gate.binding(host - 1, 2), (host - 1) % 4);
        }
        TransitGate uneven = wideGate();
        for (int port = 1; port <= 3; port++) {
            Scenes.udp(uneven, 1, port, FAR);
        }
        Scenes.udp(uneven, 2, 1, FAR);
        Scenes.udp(uneven, 2, 2, FAR);
        Scenes.udp(uneven, 3, 1, FAR);
        int[] next = {3, 2, 3, 1, 2, 3};
        // The addresses have 3, 2, 1, 0 bindings; each new host goes where the fewest are.
        for (int i = 0; i < next.length; i++) {
            Scenes.udp(uneven, 10 + i, 1, FAR);
            Check.due("fewest " + i, uneven.binding(6 + i, 2), next[i]);
        }
        Scenes.udp(uneven, 99, 1, FAR);
        Check.due("all have three", uneven.binding(12, 2), 0);
    }

    private static void portDue(int inner, int outer) {
        TransitGate gate = new TransitGate();
        Scenes.open(gate);
        Scenes.udp(gate, 1, inner, FAR);
        Check.due("UDP " + inner, gate.binding(0, 3), outer);
        Scenes.tcp(gate, 1, inner, Packets.SYN);
        Check.due("TCP " + inner, gate.binding(1, 3), outer);
        Check.due("in the packet", gate.word(5) >>> 16, outer);
    }

    /** Terms: "as odd or even as the INNER port, 1 .. 1023 if that is below 1024". */
    private static void lowPorts() {
        portDue(0, 2);
        portDue(1, 1);
        portDue(2, 2);
        portDue(1022, 2);
        portDue(1023, 1);
    }

    /** Terms: "else 1024 .. 65535". */
    private static void highPorts() {
        portDue(1024, 1024);
        portDue(1025, 1025);
        portDue(32767, 1025);
        portDue(32768, 1024);
        portDue(65534, 1024);
        portDue(65535, 1025);
    }

    /** Terms: "of ICMP 0 .. 65535", neither odd nor even. */
    private static void identifiers() {
        int[] inner = {65535, 0, 1, 1023, 1024, 2};
        TransitGate gate = new TransitGate();
        Scenes.open(gate);
        for (int i = 0; i < inner.length; i++) {
            Scenes.ping(gate, 1, inner[i], FAR);
            Check.due("inner identifier", gate.binding(i, 1), inner[i]);
            Check.due("outer identifier", gate.binding(i, 3), i);
        }
    }

    /** Terms: "The port is the least that no BINDING of the protocol has there". */
    private static void leastFreePort() {
        TransitGate gate = new TransitGate();
        Scenes.open(gate);
        for (int i = 0; i < 5; i++) {
            Scenes.udp(gate, 1 + i, 5000, FAR);
            gate.tick(10);
        }
        Check.due("the fifth", gate.binding(4, 3), 1032);
        gate.tick(240);
        // The session of the second one is kept, those of the first and the third end.
        Scenes.udp(gate, 2, 5000, FAR);
        gate.tick(30);
        Check.due("three left", gate.count(0), 3);
        Scenes.udp(gate, 11, 5000, FAR);
        Check.due("the least gap", gate.binding(3, 3), 1024);
        Scenes.udp(gate, 12, 5000, FAR);
        Check.due("the next gap", gate.binding(4, 3), 1028);
        Scenes.udp(gate, 13, 5000, FAR);
        Check.due("behind all", gate.binding(5, 3), 1034);
        Scenes.udp(gate, 14, 5001, FAR);
        Check.due("an odd one has its own", gate.binding(6, 3), 1025);
        Scenes.udp(gate, 15, 80, FAR);
        Check.due("a low one has its own", gate.binding(7, 3), 2);
    }

    /** Terms: "the least that no BINDING .. has there": at another pool address it is free. */
    private static void portsOfEachPoolAddress() {
        TransitGate gate = wideGate();
        for (int host = 0; host < 8; host++) {
            Scenes.udp(gate, 1 + host, 5000, FAR);
            Check.due("port of host " + host, gate.binding(host, 3), host < 4 ? 1024 : 1026);
        }
    }

    /** Terms: ports of "64 at most" BINDINGS of one kind, up to the last. */
    private static void portsUpToTheMost() {
        int[] inner = {0, 1, 1024, 1025};
        int[] first = {2, 1, 1024, 1025};
        for (int kind = 0; kind < inner.length; kind++) {
            TransitGate gate = new TransitGate();
            Scenes.open(gate);
            for (int i = 0; i < 64; i++) {
                Scenes.udp(gate, 1 + i, inner[kind], FAR);
                Check.due("port " + i, gate.binding(i, 3), first[kind] + 2 * i);
            }
        }
        TransitGate pings = new TransitGate();
        Scenes.open(pings);
        for (int i = 0; i < 64; i++) {
            Scenes.ping(pings, 1 + i, 300, FAR);
            Check.due("identifier " + i, pings.binding(i, 3), i);
        }
    }

    /** Terms: FAR is "an IPv4 address, and a port; 0 of ICMP". */
    private static void farPortsOfIcmp() {
        TransitGate gate = new TransitGate();
        Scenes.open(gate);
        Scenes.ping(gate, 1, 65535, FAR);
        Check.due("from inside", gate.session(0, 2), 0);
        Scenes.pingBack(gate, FAR, 0);
        Check.due("it is the same from outside", gate.count(1), 1);
        Scenes.pingBack(gate, FAR + 1, 0);
        Check.due("from another address", gate.count(1), 2);
        Check.due("its port", gate.session(1, 2), 0);
    }

    /** Terms: "the SESSION with FAR (.., its port) is found, or made": both are asked for. */
    private static void sessionsByTheFarOne() {
        TransitGate gate = new TransitGate();
        Scenes.oneOut(gate);
        Scenes.udpBack(gate, FAR, 1024);
        Check.due("found", gate.count(1), 1);
        Packets.outside(gate, Packets.four(FAR, POOL, 17, Packets.udp(54, 1024)));
        Check.due("another port", gate.count(1), 2);
        Packets.outside(gate, Packets.four(FAR + 1, POOL, 17, Packets.udp(54, 1024)));
        Check.due("another address", gate.count(1), 3);
        Packets.inside(gate, Packets.six(1, FAR + 1, 17, Packets.udp(5000, 54)));
        Check.due("found from inside", gate.count(1), 3);
        Scenes.udp(gate, 2, 5000, FAR);
        Check.due("of another binding", gate.count(1), 4);
    }

    private static int eventOf(int flags) {
        if ((flags & Packets.RST) != 0) {
            return 3;
        }
        if ((flags & Packets.SYN) != 0) {
            return 2;
        }
        return (flags & Packets.FIN) != 0 ? 1 : 0;
    }

    /** Terms: "a RST if that bit is set; else a SYN if that is; else a FIN if that is; else". */
    private static void flagsInOrder() {
        int[] inside = {3, 5, 3, 7};
        int[] outside = {3, 4, 3, 7};
        for (int flags = 0; flags < 256; flags++) {
            TransitGate gate = new TransitGate();
            bring(gate, 3);
            Scenes.tcp(gate, 1, 5000, flags);
            Check.due("from inside " + flags, gate.session(0, 3), inside[eventOf(flags)]);
            TransitGate other = new TransitGate();
            bring(other, 3);
            Scenes.tcpBack(other, FAR, 1024, flags);
            Check.due("from outside " + flags, other.session(0, 3), outside[eventOf(flags)]);
        }
    }

    /** Terms: "A packet of a SESSION that there is", and "Whatever else comes changes nothing". */
    private static void statesAndEvents() {
        // Of states 1 .. 7: PLAIN, FIN, SYN, RST from inside, then from outside; 0: nothing.
        int[][] next = {
            {0, 0, 1, 0, 0, 0, 3, 0},
            {0, 0, 3, 0, 0, 0, 0, 0},
            {3, 5, 3, 7, 3, 4, 3, 7},
            {4, 6, 4, 4, 4, 4, 4, 4},
            {5, 5, 5, 5, 5, 6, 5, 5},
            {0, 0, 0, 0, 0, 0, 0, 0},
            {3, 3, 3, 0, 3, 3, 3, 0}
        };
        int[] flags = {0, Packets.FIN, Packets.SYN, Packets.RST};
        for (int state = 1; state <= 7; state++) {
            for (int event = 0; event < 8; event++) {
                eventDue(state, flags[event % 4], event < 4, next[state - 1][event]);
            }
        }
    }

    private static void eventDue(int state, int flags, boolean inside, int next) {
        int number = state == 2 ? 1 : 0;
        int far = state == 2 ? FAR + 1 : FAR;
        byte[] packet = inside
                ? Packets.six(1, far, 6, Packets.tcp(5000, 80, flags))
                : Packets.four(far, POOL, 6, Packets.tcp(80, 1024, flags));
        String what = "state " + state + ", flags " + flags + (inside ? " in" : " out");
        TransitGate gate = new TransitGate();
        bring(gate, state);
        // One tick before its end, so that a new end cannot be taken for the old one.
        gate.tick(LIVES[state] - 1);
        int answer = inside ? Packets.inside(gate, packet) : Packets.outside(gate, packet);
        Check.due(what + ": made", answer, inside ? 40 : 60);
        Check.due(what, gate.session(number, 3), next == 0 ? state : next);
        Check.due(what + ": end", gate.session(number, 4), next == 0 ? 1 : LIVES[next]);
        Check.due(what + ": sessions", gate.count(1), number + 1);
        Check.due(what + ": ends then", gate.tick(1), next == 0 ? 1 : 0);
    }

    /** Terms: "TCP from inside 1, from outside 2, by a SYN alone". */
    private static void synAlone() {
        for (int flags = 0; flags < 256; flags++) {
            boolean opens = eventOf(flags) == 2;
            TransitGate gate = new TransitGate();
            Scenes.open(gate);
            Check.due("from inside " + flags, Scenes.tcp(gate, 1, 5000, flags),
                    opens ? 40 : -TABLE);
            Check.due("state", gate.session(0, 3), opens ? 1 : -1);
            TransitGate other = new TransitGate();
            bring(other, 1);
            Check.due("from outside " + flags, Scenes.tcpBack(other, FAR + 1, 1024, flags),
                    opens ? 60 : -TABLE);
            Check.due("state", other.session(1, 3), opens ? 2 : -1);
        }
    }
}
