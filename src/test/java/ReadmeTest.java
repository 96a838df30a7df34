import java.io.File;
import java.io.IOException;
import java.nio.file.Files;
import java.nio.file.Path;
import java.util.ArrayList;
import java.util.List;

/** README.md: its example runs and answers what it says, and it names every call and test. */
public final class ReadmeTest {
    private static final String CALLS = "TransitGate gate = new TransitGate();";
    private static final String[] FACE = {
        "prefix(high, low, length)", "pool(address)", "high(address)", "low(address)",
        "drawn(high, low)", "feed(a, b, c, d, e)", "inside(n)", "outside(n)", "word(i)", "take()",
        "bend(i, mask)", "sign(n, at)", "signHead()", "tick(n)", "binding(i, what)",
        "inner(i, low)", "session(i, what)", "count(what)"};

    public static void main(String[] args) throws IOException {
        String readme = Files.readString(Path.of("README.md"));
        example();
        Path self = Path.of("src/test/java/ReadmeTest.java");
        List<String> told = statements(block(readme));
        List<String> run = statements(Files.readString(self));
        int from = run.indexOf(CALLS);
        Check.due("the example is told", told.contains(CALLS), true);
        Check.due("the example is the one that runs: " + told,
                from >= 0 && run.subList(from, from + told.size()).equals(told), true);
        for (String each : FACE) {
            Check.due("tells of " + each, readme.contains("`" + each + "`"), true);
        }
        namesEveryTest(readme);
        Check.end();
    }

    private static void example() {
        TransitGate gate = new TransitGate();
        gate.prefix(0x0064ff9b00000000L, 0, 96);
        gate.pool(0x0a000001);
        gate.feed(0x60000000, 0x00081140, 0x20010db8, 0, 0);
        gate.feed(1, 0x0064ff9b, 0, 0, 0x08080808);
        gate.feed(0x13880035, 0x00080000, 0, 0, 0);
        gate.sign(48, 46);
        int there = gate.inside(48);
        int ports = gate.word(5);
        gate.feed(0x4500001c, 0, 0x40110000, 0x08080808, 0x0a000001);
        gate.feed(0x00350400, 0x00080000, 0, 0, 0);
        gate.sign(28, 26);
        gate.signHead();
        int back = gate.outside(28);
        int ended = gate.tick(300);
        Check.due("inside(48)", there, 28);
        Check.due("the ports there", ports, 1024 << 16 | 53);
        Check.due("outside(28)", back, 48);
        Check.due("the high half of the address back", gate.word(6), 0x20010db8);
        Check.due("the end of the address back", gate.word(9), 1);
        Check.due("the ports back", gate.word(10), 53 << 16 | 5000);
        Check.due("tick(300)", ended, 1);
    }

    private static String block(String readme) {
        String begin = "```java\n";
        int from = readme.indexOf(begin);
        int to = from < 0 ? -1 : readme.indexOf("```", from + begin.length());
        return to < 0 ? "" : readme.substring(from + begin.length(), to);
    }

    /** The lines of a text without comments, blanks at their ends, and empty lines. */
    private static List<String> statements(String text) {
        List<String> lines = new ArrayList<>();
        for (String line : text.split("\n")) {
            String bare = line.replaceAll("//.*", "").trim();
            if (!bare.isEmpty()) {
                lines.add(bare);
            }
        }
        return lines;
    }

    private static void namesEveryTest(String readme) {
        String[] names = new File("src/test/java").list();
        Check.due("there are tests", names != null && names.length > 0, true);
        if (names == null) {
            return;
        }
        for (String name : names) {
            String bare = name.replace(".java", "");
            if (bare.endsWith("Test")) {
                Check.due("tells of " + bare, readme.contains("`" + bare + "`"), true);
            }
        }
    }
}
