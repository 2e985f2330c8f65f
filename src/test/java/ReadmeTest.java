import java.io.IOException;
import java.lang.reflect.InvocationTargetException;
import java.lang.reflect.Method;
import java.nio.file.Files;
import java.nio.file.Path;
import java.util.ArrayList;
import java.util.List;
import java.util.regex.Matcher;
import java.util.regex.Pattern;

/** What README.md says of the use: its texts are fed by its own program, and each of its calls answers what stands behind it. */
public final class ReadmeTest {
    private static final Pattern BLOCK = Pattern.compile("```(text|java)\n(.*?)```", Pattern.DOTALL);
    private static final Pattern CALL = Pattern.compile("x\\.(\\w+)\\(([^)]*)\\); *// (-?\\d+|true|false)(: .*)?");
    private static final Sea SEA = new Sea("README");

    public static void main(String[] args) throws IOException, IllegalAccessException {
        String readme = Files.readString(Path.of("README.md"));
        String source = Files.readString(Path.of("src/test/java/ReadmeTest.java"));
        Matcher m = BLOCK.matcher(readme);
        int calls = 0;
        while (m.find()) {
            String block = m.group(2);
            if (m.group(1).equals("text")) {
                feed(SEA.x, block);
            } else if (block.startsWith("static")) {
                SEA.due("the program that feeds is the one here", source.contains(block.indent(4).replaceAll("(?m)^ +$", "")), true);
            } else {
                for (String line : block.split("\n")) {
                    check(line);
                    calls++;
                }
            }
        }
        SEA.due("README has examples", calls > 20, true);
        testsAreNamed(readme);
        Sea.end("ReadmeTest");
    }

    static void feed(CargoFlag x, String text) {
        for (int i = 0; i < text.length(); i += 20) {
            x.feed(four(text, i), four(text, i + 4), four(text, i + 8), four(text, i + 12), four(text, i + 16));
        }
    }

    static int four(String text, int at) {
        int v = 0;
        for (int i = at; i < at + 4; i++) {
            v = v << 8 | (i < text.length() ? text.charAt(i) : ' ');
        }
        return v;
    }

    private static void check(String line) throws IllegalAccessException {
        Matcher m = CALL.matcher(line);
        if (!m.matches()) {
            SEA.due("a call with its answer: " + line, false, true);
            return;
        }
        List<Object> given = new ArrayList<>();
        for (String arg : m.group(2).isEmpty() ? new String[0] : m.group(2).split(", ")) {
            given.add(Integer.parseInt(arg));
        }
        for (Method f : CargoFlag.class.getMethods()) {
            if (f.getName().equals(m.group(1)) && f.getParameterCount() == given.size()) {
                SEA.same(line, answer(f, given), m.group(3));
                return;
            }
        }
        SEA.due("a call of the face: " + line, false, true);
    }

    private static String answer(Method f, List<Object> given) throws IllegalAccessException {
        try {
            return String.valueOf(f.invoke(SEA.x, given.toArray()));
        } catch (InvocationTargetException e) {
            return String.valueOf(e.getCause());
        }
    }

    /** README tells of every test that .ci/run runs, and of no other. */
    private static void testsAreNamed(String readme) throws IOException {
        List<String> named = new ArrayList<>();
        Matcher m = Pattern.compile("^\\| `(\\w+Test)` \\|", Pattern.MULTILINE).matcher(readme);
        while (m.find()) {
            named.add(m.group(1));
        }
        List<String> there = new ArrayList<>();
        try (var files = Files.list(Path.of("src/test/java"))) {
            files.map(p -> p.getFileName().toString()).filter(n -> n.endsWith("Test.java")).forEach(n -> there.add(n.replace(".java", "")));
        }
        named.sort(null);
        there.sort(null);
        SEA.same("tests that README names", named.toString(), there.toString());
    }
}
