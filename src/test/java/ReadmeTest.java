import java.io.IOException;
import java.lang.reflect.Method;
import java.lang.reflect.Modifier;
import java.nio.file.Files;
import java.nio.file.Path;
import java.util.ArrayList;
import java.util.List;
import java.util.Map;
import java.util.Set;
import java.util.TreeMap;
import java.util.TreeSet;
import java.util.regex.Matcher;
import java.util.regex.Pattern;
import java.util.stream.Collectors;
import java.util.stream.Stream;

/** README.md is held against the class, the document and the tests that there are. */
public final class ReadmeTest {
    private static final Pattern CALL = Pattern.compile("(?:int \\w+ = )?panel\\.(\\w+)\\(([^)]*)\\); +// (-?\\d+|[A-Z]+)(:.*)?");
    private static final Pattern ROW = Pattern.compile("\\| (\\d+) \\| `(\\w+)\\(([^)]*)\\)` \\|.*\\| (.*?) ?\\|");
    private static final Pattern TEST = Pattern.compile("\\| `(\\w+Test)` \\|.*");
    private static final Pattern REFUSAL = Pattern.compile("\\b(UNKNOWN|OUTSIDE|NOT|FULL)\\b");
    /** A promise's heading, its signature, and then its text. */
    private static final Pattern PROMISE = Pattern.compile("## Promise (\\d+): (\\w+)\\n\\n`\\w+ \\w+\\(([^)]*)\\)`: ([^\\n]*)");

    private static final Path SOURCE = Path.of(System.getProperty("touchpanel.source")).toAbsolutePath().normalize();
    private static final Path ROOT = SOURCE.getParent().getParent().getParent().getParent();

    public static void main(String[] args) throws ReflectiveOperationException, IOException {
        List<String> lines = Files.readAllLines(ROOT.resolve("README.md"));
        examples(lines);
        callTable(lines);
        constants(String.join("\n", lines));
        testTable(lines);
        howTestsAreRun(lines);
        Due.end();
    }

    private static void examples(List<String> lines) throws ReflectiveOperationException {
        TouchPanel panel = null;
        boolean inside = false;
        int objects = 0;
        Set<String> used = new TreeSet<>();
        for (String line : lines) {
            if (line.startsWith("```")) {
                inside = line.equals("```java");
            } else if (inside && line.startsWith("TouchPanel panel = new TouchPanel();")) {
                panel = new TouchPanel();
                objects++;
            } else if (inside) {
                used.add(answer(panel, line));
            }
        }
        Due.due("examples in README.md", objects, 3);
        Due.holds("the examples use every call: " + used, used.equals(face().keySet()));
    }

    /** Makes the call of a line of an example; answers its name. */
    private static String answer(TouchPanel panel, String line) throws ReflectiveOperationException {
        Matcher call = CALL.matcher(line);
        if (panel == null || !call.matches() || !face().containsKey(call.group(1))) {
            Due.tell("README.md: this is no call with its answer: " + line);
            return "";
        }
        Method method = face().get(call.group(1));
        Object[] numbers = call.group(2).isEmpty() ? new Object[0] : Stream.of(call.group(2).split(", ")).map(Integer::valueOf).toArray();
        Due.due("README.md: numbers of " + line, numbers.length, method.getParameterCount());
        long got = ((Number) method.invoke(panel, numbers)).longValue();
        String told = call.group(3);
        Due.due("README.md: " + line, got, told.matches("[A-Z]+") ? constant(told) : Long.parseLong(told));
        return call.group(1);
    }

    private static long constant(String name) throws ReflectiveOperationException {
        return TouchPanel.class.getField(name).getInt(null);
    }

    private static Map<String, Method> face() {
        Map<String, Method> face = new TreeMap<>();
        for (Method method : TouchPanel.class.getDeclaredMethods()) {
            if (Modifier.isPublic(method.getModifiers())) {
                face.put(method.getName(), method);
            }
        }
        return face;
    }

    /** Each row has the document's number, names and refusals; and there is a row for each promise but the first. */
    private static void callTable(List<String> lines) throws IOException {
        Map<String, String> rows = new TreeMap<>();
        for (String line : lines) {
            Matcher row = ROW.matcher(line);
            if (row.matches()) {
                rows.put(row.group(2), row.group(1) + " (" + row.group(3) + ") " + refusals(row.group(4)));
            }
        }
        Map<String, String> promises = new TreeMap<>();
        Matcher promise = PROMISE.matcher(Files.readString(ROOT.resolve("../shared/DOC.md")));
        while (promise.find()) {
            String names = promise.group(3).replaceAll("int ", "");
            promises.put(promise.group(2), promise.group(1) + " (" + names + ") " + refusals(promise.group(4)));
        }
        Due.due("promises with a call", promises.size(), 19);
        Due.holds("README.md has a row for each call: " + rows.keySet(), rows.keySet().equals(face().keySet()));
        for (String call : promises.keySet()) {
            Due.holds("README.md's row " + call + " is as promised, " + promises.get(call) + ", not " + rows.get(call),
                    promises.get(call).equals(rows.get(call)));
        }
    }

    private static Set<String> refusals(String text) {
        Set<String> found = new TreeSet<>();
        Matcher refusal = REFUSAL.matcher(text);
        while (refusal.find()) {
            found.add(refusal.group());
        }
        return found;
    }

    private static void constants(String text) throws ReflectiveOperationException {
        for (String name : List.of("UNKNOWN", "OUTSIDE", "NOT", "FULL")) {
            Due.holds("README.md tells the number of " + name, text.contains("`" + name + "` (" + constant(name) + ")"));
        }
        Due.holds("README.md tells the number of NONE", text.contains("`NONE` is " + TouchPanel.NONE));
    }

    private static void testTable(List<String> lines) throws IOException {
        List<String> told = new ArrayList<>();
        for (String line : lines) {
            Matcher test = TEST.matcher(line);
            if (test.matches()) {
                told.add(test.group(1));
            }
        }
        try (Stream<Path> files = Files.list(ROOT.resolve("src/test/java"))) {
            Set<String> there = files.map(file -> file.getFileName().toString().replace(".java", ""))
                    .filter(name -> name.endsWith("Test")).collect(Collectors.toCollection(TreeSet::new));
            Due.holds("README.md tells of each test: " + there + ", not " + told, new TreeSet<>(told).equals(there));
            Due.due("tests told of", told.size(), there.size());
        }
    }

    /** Each file that a line of commands names is there, and .ci/run can be run. */
    private static void howTestsAreRun(List<String> lines) {
        List<String> commands = lines.stream().filter(line -> line.startsWith("    ")).map(String::strip).toList();
        Due.holds(".ci/run is told as a command", commands.contains(".ci/run"));
        Due.holds(".ci/run can be run", Files.isExecutable(ROOT.resolve(".ci/run")));
        for (String command : commands) {
            Matcher file = Pattern.compile("src/\\S+\\.java").matcher(command);
            while (file.find()) {
                Due.holds("README.md: there is " + file.group(), Files.isRegularFile(ROOT.resolve(file.group())));
            }
        }
    }
}
