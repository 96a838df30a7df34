import java.io.IOException;
import java.lang.reflect.Constructor;
import java.lang.reflect.Field;
import java.lang.reflect.Method;
import java.lang.reflect.Modifier;
import java.nio.file.Files;
import java.nio.file.Path;
import java.util.Arrays;
import java.util.List;
import java.util.Set;
import java.util.TreeSet;
import java.util.regex.Matcher;
import java.util.regex.Pattern;

/** The public face of the class, and the rules of the language that its text can show. */
public final class FaceTest {
    private static final List<String> FACE = List.of(
            "boolean feed(int, int, int, int, int)", "boolean prefix(long, long, int)",
            "int bend(int, int)", "int binding(int, int)", "int count(int)", "int inside(int)",
            "int outside(int)", "int pool(int)", "int session(int, int)", "int sign(int, int)",
            "int signHead()", "int take()", "int tick(int)", "int word(int)",
            "long drawn(long, long)", "long high(int)", "long inner(int, boolean)",
            "long low(int)");
    private static final List<String> FORBIDDEN = List.of(
            "\\bthrow\\b", "\\btry\\b", "\\bcatch\\b", "\\bsynchronized\\b", "\\bassert\\b",
            "->", "::", "Exact\\(", "\\bpublic static\\b", "\\bprotected\\b", "\\bObject\\b");
    private static final int MOST_CLASSES = 12;
    private static final int MOST_PARAMETERS = 7;
    private static final int MOST_FIELDS = 20;
    private static final int MOST_LINES = 60;

    public static void main(String[] args) throws IOException {
        publicFace();
        membersOf(TransitGate.class);
        for (Class<?> each : TransitGate.class.getDeclaredClasses()) {
            Check.due(each + " is static", Modifier.isStatic(each.getModifiers()), true);
            membersOf(each);
        }
        int classes = TransitGate.class.getDeclaredClasses().length + 1;
        Check.due("few classes", classes <= MOST_CLASSES, true);
        text(Files.readString(Path.of("src/main/java/TransitGate.java")));
        Check.end();
    }

    private static String told(Method method) {
        StringBuilder text = new StringBuilder(method.getReturnType().getSimpleName());
        text.append(' ').append(method.getName()).append('(');
        String separator = "";
        for (Class<?> type : method.getParameterTypes()) {
            text.append(separator).append(type.getSimpleName());
            separator = ", ";
        }
        return text.append(')').toString();
    }

    private static void publicFace() {
        Set<String> found = new TreeSet<>();
        for (Method method : TransitGate.class.getDeclaredMethods()) {
            if (!Modifier.isPrivate(method.getModifiers())) {
                found.add(told(method));
                Check.due(method + " is public", Modifier.isPublic(method.getModifiers()), true);
            }
        }
        Check.due("the face", found.equals(new TreeSet<>(FACE)), true);
        Constructor<?>[] constructors = TransitGate.class.getDeclaredConstructors();
        Check.due("one constructor", constructors.length, 1);
        Check.due("it is public", Modifier.isPublic(constructors[0].getModifiers()), true);
        int modifiers = TransitGate.class.getModifiers();
        Check.due("public and final", modifiers, Modifier.PUBLIC | Modifier.FINAL);
        for (Field field : TransitGate.class.getDeclaredFields()) {
            Check.due(field + " is private", Modifier.isPrivate(field.getModifiers()), true);
        }
    }

    private static void membersOf(Class<?> type) {
        Set<String> names = new TreeSet<>();
        for (String each : FACE) {
            names.add(each.substring(each.indexOf(' ') + 1, each.indexOf('(')));
        }
        for (Method method : type.getDeclaredMethods()) {
            Check.due(method + " parameters", method.getParameterCount() <= MOST_PARAMETERS, true);
            boolean open = Modifier.isPublic(method.getModifiers());
            Check.due(method + " bears a public name", !open && names.contains(method.getName()),
                    false);
        }
        long fields = Arrays.stream(type.getDeclaredFields())
                .filter(field -> !Modifier.isStatic(field.getModifiers())).count();
        Check.due(type + " has few fields", fields <= MOST_FIELDS, true);
        for (Field field : type.getDeclaredFields()) {
            boolean changes = Modifier.isStatic(field.getModifiers())
                    && !Modifier.isFinal(field.getModifiers());
            Check.due(field + " is static and changes", changes, false);
        }
    }

    private static void text(String source) {
        String code = source.replaceAll("(?s)/\\*.*?\\*/", "").replaceAll("//[^\n]*", "");
        for (String each : FORBIDDEN) {
            Check.due("has " + each, Pattern.compile(each).matcher(code).find(), false);
        }
        Matcher imports = Pattern.compile("import ([^;]*);").matcher(code);
        while (imports.find()) {
            Check.due("imports " + imports.group(1),
                    imports.group(1).equals("java.util.ArrayList"), true);
        }
        Check.due("has a package", Pattern.compile("(?m)^package ").matcher(code).find(), false);
        methodLengths(source.split("\n"));
    }

    /** A method begins at an indented line that opens a brace and ends where that is closed. */
    private static void methodLengths(String[] lines) {
        for (int i = 0; i < lines.length; i++) {
            Matcher begin = Pattern.compile("^( {4}| {8})[^ }].*\\) \\{$").matcher(lines[i]);
            if (!begin.find()) {
                continue;
            }
            int last = i;
            while (last < lines.length && !lines[last].equals(begin.group(1) + "}")) {
                last++;
            }
            Check.due("short: " + lines[i].trim(), last - i <= MOST_LINES, true);
        }
    }
}
