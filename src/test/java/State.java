import java.util.LinkedHashMap;
import java.util.Map;
import java.util.Objects;
import java.util.Set;
import java.util.TreeSet;
import java.util.function.Consumer;
import java.util.function.ToLongFunction;

/**
 * Everything that a gate tells after some calls. A gate answers for 512 calls alone, so the calls
 * are played again on a new gate whenever there are more questions than that leaves room for.
 */
final class State {
    /** Leaves some 420 of the 512 calls to what is played. */
    private static final int QUESTIONS_A_PLAY = 90;
    private static final int[] ADDRESSES = {0, 1, Packets.FAR, 0xC0000221, -1};
    private static final int POOL_PROBES = 6;

    private final Consumer<TransitGate> play;
    private final Map<String, Long> told;
    private TransitGate gate;
    private int asked;

    private State(Consumer<TransitGate> calls) {
        play = calls;
        told = new LinkedHashMap<>();
        playAgain();
    }

    static Map<String, Long> after(Consumer<TransitGate> calls) {
        State state = new State(calls);
        state.counts();
        state.addresses();
        state.tables();
        state.bytes();
        state.pool();
        return state.told;
    }

    /** The names of all that is told otherwise, or is told in one of both alone. */
    static Set<String> changed(Map<String, Long> before, Map<String, Long> after) {
        Set<String> names = new TreeSet<>(before.keySet());
        names.addAll(after.keySet());
        names.removeIf(name -> Objects.equals(before.get(name), after.get(name)));
        return names;
    }

    private void playAgain() {
        gate = new TransitGate();
        play.accept(gate);
        asked = 0;
    }

    private void ask(String name, ToLongFunction<TransitGate> question) {
        if (asked == QUESTIONS_A_PLAY) {
            playAgain();
        }
        asked++;
        told.put(name, question.applyAsLong(gate));
    }

    private int size(int what) {
        return told.get("count " + what).intValue();
    }

    private void counts() {
        for (int i = -1; i <= 17; i++) {
            int what = i;
            ask("count " + what, each -> each.count(what));
        }
    }

    private void addresses() {
        for (int address : ADDRESSES) {
            ask("high " + address, each -> each.high(address));
            ask("low " + address, each -> each.low(address));
            ask("drawn " + address,
                    each -> each.drawn(Packets.SITE, address & 0xFFFFFFFFL));
        }
        ask("drawn nothing", each -> each.drawn(0, 0));
    }

    private void tables() {
        for (int i = 0; i < 5 * size(0); i++) {
            int number = i / 5;
            int what = i % 5;
            ask("binding " + number + " " + what, each -> each.binding(number, what));
        }
        for (int i = 0; i < size(0); i++) {
            int number = i;
            ask("inner " + number + " high", each -> each.inner(number, false));
            ask("inner " + number + " low", each -> each.inner(number, true));
        }
        for (int i = 0; i < 5 * size(1); i++) {
            int number = i / 5;
            int what = i % 5;
            ask("session " + number + " " + what, each -> each.session(number, what));
        }
    }

    private void bytes() {
        for (int i = 0; i < (size(5) + 3) / 4; i++) {
            int at = i;
            ask("out " + at, each -> each.word(at));
        }
        for (int i = 0; i < size(4); i++) {
            int at = i;
            ask("tape " + at, each -> each.bend(at, 0));
        }
    }

    /** What the pool has is told by its answers to more addresses, each asked of a new gate. */
    private void pool() {
        for (int i = 0; i < POOL_PROBES; i++) {
            int address = Packets.POOL + i;
            playAgain();
            ask("pool " + i, each -> each.pool(address));
        }
    }
}
