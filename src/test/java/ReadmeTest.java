import java.io.IOException;
import java.lang.reflect.Method;
import java.lang.reflect.Modifier;
import java.nio.file.DirectoryStream;
import java.nio.file.Files;
import java.nio.file.Path;
import java.util.HashMap;
import java.util.Map;
import java.util.Set;
import java.util.TreeSet;
import java.util.regex.Matcher;
import java.util.regex.Pattern;

/** What README.md says of use and of the tests is as the class and .ci/run do it. */
public final class ReadmeTest {
    private static final Check CHECK = new Check();
    private static final Path TESTS = Path.of("src/test/java");
    private static final Map<String, Integer> REFUSALS = Map.of("NONE", SiegePlate.NONE, "UNKNOWN", SiegePlate.UNKNOWN,
        "OUTSIDE", SiegePlate.OUTSIDE, "NOT", SiegePlate.NOT, "FULL", SiegePlate.FULL);

    public static void main(String[] args) throws Exception {
        String page = Files.readString(Path.of("README.md"));
        linesOfUse(page);
        testsOfTheTable(page);
        theScript(page);
        CHECK.end();
    }

    /** Each line of use answers what stands behind it, and no call of the face is left out. */
    private static void linesOfUse(String page) throws Exception {
        Map<String, Method> calls = callsOfTheFace();
        Set<String> used = new TreeSet<>(Set.of("feed"));
        SiegePlate siege = new SiegePlate();
        Matcher text = Pattern.compile("for \\(char letter : \"([^\"]+)\"").matcher(page);
        CHECK.due("there is a text", text.find() ? 1 : 0, 1);
        Check.feedAll(siege, text.group(1));
        Matcher line = Pattern.compile("(?m)^siege\\.(\\w+)\\((.*?)\\); *// (-?\\w+): .+$").matcher(page);
        while (line.find()) {
            Method call = calls.get(line.group(1));
            used.add(line.group(1));
            CHECK.due(line.group(), (Integer) call.invoke(siege, arguments(call, line.group(2))), numberOf(line.group(3)));
        }
        long lines = page.lines().filter(l -> l.startsWith("siege.")).count();
        CHECK.due("lines that were run", Pattern.compile("(?m)^siege\\..*// -?\\w+: ").matcher(page).results().count(), lines);
        CHECK.same("calls of use", used.toString(), new TreeSet<>(calls.keySet()).toString());
    }

    private static Map<String, Method> callsOfTheFace() {
        Map<String, Method> calls = new HashMap<>();
        for (Method m : SiegePlate.class.getDeclaredMethods()) {
            if (Modifier.isPublic(m.getModifiers())) {
                calls.put(m.getName(), m);
            }
        }
        return calls;
    }

    private static Object[] arguments(Method call, String written) {
        String[] words = written.isEmpty() ? new String[0] : written.split(", ");
        Object[] values = new Object[words.length];
        for (int i = 0; i < words.length; i++) {
            boolean isTruth = call.getParameterTypes()[i] == boolean.class;
            values[i] = isTruth ? (Object) Boolean.valueOf(words[i]) : (Object) numberOf(words[i]);
        }
        return values;
    }

    private static Integer numberOf(String word) {
        String name = word.replace("SiegePlate.", "");
        return REFUSALS.containsKey(name) ? REFUSALS.get(name) : Integer.valueOf(name);
    }

    /** The table names every test that .ci/run finds, and no other. */
    private static void testsOfTheTable(String page) throws IOException {
        Set<String> told = new TreeSet<>();
        Matcher row = Pattern.compile("(?m)^\\| `(\\w+)` \\|").matcher(page);
        while (row.find()) {
            told.add(row.group(1));
        }
        Set<String> there = new TreeSet<>();
        try (DirectoryStream<Path> files = Files.newDirectoryStream(TESTS, "*Test.java")) {
            for (Path file : files) {
                there.add(file.getFileName().toString().replace(".java", ""));
            }
        }
        CHECK.same("tests of the table", told.toString(), there.toString());
    }

    private static void theScript(String page) throws IOException {
        CHECK.due("the page names the script", page.contains("`.ci/run`") ? 1 : 0, 1);
        CHECK.due("it can be run", Files.isExecutable(Path.of(".ci/run")) ? 1 : 0, 1);
        String script = Files.readString(Path.of(".ci/run"));
        CHECK.due("it takes the project's tests", script.contains("src/test/java/*Test.java") ? 1 : 0, 1);
        CHECK.due("it takes the shared tests", script.contains("../shared/tests/*.java") ? 1 : 0, 1);
        for (String helper : new String[] {"Model", "Twins", "Hidden"}) {
            CHECK.due(helper + " is told", page.contains("`" + helper + "`") ? 1 : 0, 1);
            CHECK.due(helper + " is there", Files.exists(TESTS.resolve(helper + ".java")) ? 1 : 0, 1);
        }
    }
}
