import java.util.Arrays;

/** Compares answers with those that are due, and ends a test with the exit code they deserve. */
final class Check {
    private static int right = 0;
    private static int wrong = 0;

    private Check() {
    }

    static void due(String what, long got, long want) {
        if (got == want) {
            right++;
            return;
        }
        wrong++;
        System.out.println(what + " answered " + got + ", due is " + want);
    }

    static void due(String what, boolean got, boolean want) {
        due(what, got ? 1 : 0, want ? 1 : 0);
    }

    static void same(String what, byte[] got, byte[] want) {
        if (Arrays.equals(got, want)) {
            right++;
            return;
        }
        wrong++;
        System.out.println(what + " is  " + Packets.hex(got));
        System.out.println(what + " due " + Packets.hex(want));
    }

    static void end() {
        System.out.println(right + " answers as due, " + wrong + " not");
        if (wrong != 0 || right == 0) {
            System.exit(1);
        }
    }
}
