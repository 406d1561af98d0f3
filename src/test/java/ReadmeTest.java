import java.lang.reflect.Method;
import java.lang.reflect.Modifier;
import java.nio.charset.StandardCharsets;
import java.nio.file.DirectoryStream;
import java.nio.file.Files;
import java.nio.file.Path;
import java.util.HashMap;
import java.util.Map;
import java.util.Set;
import java.util.TreeSet;
import java.util.regex.Matcher;
import java.util.regex.Pattern;

/** Makes the calls that README.md shows, and looks whether they answer what stands behind them. */
public final class ReadmeTest {
    private static final String MAKING = "CrackedMud mud = new CrackedMud();";
    private static final Pattern CALL = Pattern.compile("(?:int (\\w+) = )?mud\\.(\\w+)\\(([^)]*)\\);\\s*// (-?\\d+|true|false)\\b.*");
    private static final Path TESTS = Path.of("src/test/java");
    private static final String COMMA = "\\s*,\\s*";

    private final Map<String, Integer> variables = new HashMap<>();
    private final Map<String, Method> face = new HashMap<>();
    private final Set<String> shown = new TreeSet<>();
    private CrackedMud mud = null;
    private int answers = 0;
    private int wrong = 0;

    private ReadmeTest() {
        for (Method method : CrackedMud.class.getDeclaredMethods()) {
            if (Modifier.isPublic(method.getModifiers())) face.put(method.getName(), method);
        }
    }

    private void holds(String what, boolean so) {
        if (!so) {
            wrong++;
            System.out.println("not so: " + what);
        }
    }

    private Object[] values(String arguments) {
        if (arguments.isBlank()) return new Object[0];
        String[] told = arguments.trim().split(COMMA);
        Object[] values = new Object[told.length];
        for (int k = 0; k < told.length; k++) {
            values[k] = variables.containsKey(told[k]) ? variables.get(told[k]) : (Object) Long.decode(told[k]).intValue();
        }
        return values;
    }

    private void line(String line) throws ReflectiveOperationException {
        if (line.equals(MAKING)) {
            mud = new CrackedMud();
            return;
        }
        Matcher call = CALL.matcher(line);
        if (!call.matches() || mud == null || !face.containsKey(call.group(2))) {
            holds("a call with its answer: " + line, false);
            return;
        }
        String got = String.valueOf(face.get(call.group(2)).invoke(mud, values(call.group(3))));
        answers++;
        shown.add(call.group(2));
        holds("answered " + got + ": " + line, got.equals(call.group(4)));
        if (call.group(1) != null) variables.put(call.group(1), Integer.valueOf(got));
    }

    private void calls(String readme) throws ReflectiveOperationException {
        Matcher block = Pattern.compile("(?s)```java\n(.*?)```").matcher(readme);
        while (block.find()) {
            for (String line : block.group(1).split("\n")) line(line.trim());
        }
        for (String name : face.keySet()) holds("README.md shows " + name, shown.contains(name));
    }

    /** A file of the tests is named there by itself, between back ticks, and none that is not there. */
    private void tests(String readme) throws java.io.IOException {
        Set<String> there = new TreeSet<>();
        try (DirectoryStream<Path> files = Files.newDirectoryStream(TESTS, "*.java")) {
            for (Path file : files) there.add(file.getFileName().toString().replace(".java", ""));
        }
        for (String name : there) holds("README.md names " + name, readme.contains("`" + name + "`"));
        Matcher named = Pattern.compile("`(\\w+Test)`").matcher(readme);
        while (named.find()) holds(named.group(1) + " is there", there.contains(named.group(1)));
        holds("README.md tells how to run the tests", readme.contains("\n    .ci/run\n") && Files.isExecutable(Path.of(".ci/run")));
    }

    public static void main(String[] args) throws Exception {
        String readme = Files.readString(Path.of("README.md"), StandardCharsets.UTF_8);
        ReadmeTest test = new ReadmeTest();
        test.calls(readme);
        test.tests(readme);
        System.out.println(test.wrong == 0 ? test.answers + " answers are as README.md says" : test.wrong + " things are not as README.md says");
        if (test.wrong > 0) System.exit(1);
    }
}
