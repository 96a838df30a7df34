import java.util.Arrays;
import java.util.Map;
import java.util.Set;
import java.util.TreeSet;
import java.util.function.Consumer;
import java.util.function.ToLongFunction;

/** Compares answers with those that are due, and ends a test with the exit code they deserve. */
final class Check {
    private static int right = 0;
    private static int wrong = 0;

    private Check() {
    }

    static void due(String what, long got, long want) {
        if (got == want) {
            right++;
            return;
        }
        wrong++;
        System.out.println(what + " answered " + got + ", due is " + want);
    }

    static void due(String what, boolean got, boolean want) {
        due(what, got ? 1 : 0, want ? 1 : 0);
    }

    static void same(String what, byte[] got, byte[] want) {
        if (Arrays.equals(got, want)) {
            right++;
            return;
        }
        wrong++;
        System.out.println(what + " is  " + Packets.hex(got));
        System.out.println(what + " due " + Packets.hex(want));
    }

    /**
     * A call's answer, and what it changes: a name of a state ("count 4"), or the beginning of
     * some ("tape"). All that is named must change, and nothing else may.
     */
    static void call(
            String what, Consumer<TransitGate> scene, ToLongFunction<TransitGate> call, long want,
            String... changes) {
        TransitGate gate = new TransitGate();
        scene.accept(gate);
        due(what, call.applyAsLong(gate), want);
        Map<String, Long> before = State.after(scene);
        Map<String, Long> after = State.after(scene.andThen(call::applyAsLong));
        changes(what, State.changed(before, after), changes);
    }

    private static void changes(String what, Set<String> changed, String... wanted) {
        Set<String> left = new TreeSet<>(changed);
        for (String each : wanted) {
            boolean met = left.removeIf(
                    name -> name.equals(each) || name.startsWith(each + " "));
            due(what + ": changes " + each, met, true);
        }
        due(what + ": changes nothing else, but " + left, left.isEmpty(), true);
    }

    static void end() {
        System.out.println(right + " answers as due, " + wrong + " not");
        if (wrong != 0 || right == 0) {
            System.exit(1);
        }
    }
}
