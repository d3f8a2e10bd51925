import java.io.IOException;
import java.lang.reflect.Method;
import java.lang.reflect.Modifier;
import java.nio.file.Files;
import java.nio.file.Path;
import java.util.ArrayList;
import java.util.Arrays;
import java.util.List;
import java.util.Map;
import java.util.Set;
import java.util.TreeMap;
import java.util.TreeSet;
import java.util.regex.Matcher;
import java.util.regex.Pattern;
import java.util.stream.Collectors;
import java.util.stream.Stream;

/** What README.md says is so: each call that it shows is made, and its answer is the one behind it. */
public final class ReadmeTest {
    private static final Path README = Path.of("README.md");
    private static final Path TESTS = Path.of("src/test/java");
    private static final Pattern SHOWN = Pattern.compile("(?ms)^```java\\n(.*?)^```$");
    private static final Pattern CALL =
            Pattern.compile("desk\\.(\\w+)\\(([^)]*)\\);\\s+// (-?\\d+|true|false)(:.*)?");
    private static final Pattern ROW = Pattern.compile("(?m)^\\| `(\\w+)\\((.*?)\\)` \\|.*\\|$");
    private static final Pattern CLASS_NAME = Pattern.compile("`([A-Z]\\w*[a-z]\\w*)`(?: to `(\\w+)`)?");
    private static final Pattern PATH = Pattern.compile("(?:src|\\.ci)/[\\w/.]*\\w");

    public static void main(String[] args) throws Exception {
        String text = Files.readString(README);
        Checks checks = new Checks();
        answersAreAsShown(checks, text);
        eachCallIsShown(checks, text);
        eachCallHasARow(checks, text);
        eachConstantIsTold(checks, text);
        eachTestIsTold(checks, text);
        pathsAreThere(checks, text);
        checks.end();
    }

    /** One desk for all blocks: a later one says that it goes on with the run before. */
    private static void answersAreAsShown(Checks checks, String text) throws ReflectiveOperationException {
        NearDesk desk = new NearDesk();
        for (String line : shownLines(text)) {
            Matcher call = CALL.matcher(line);
            boolean isCall = call.matches();
            checks.isTrue("a call and its answer: " + line, isCall);
            if (isCall) {
                checks.same(line, answer(desk, call.group(1), call.group(2)), call.group(3));
            }
        }
    }

    private static void eachCallIsShown(Checks checks, String text) {
        Set<String> shown = new TreeSet<>();
        for (String line : shownLines(text)) {
            Matcher call = CALL.matcher(line);
            if (call.matches()) {
                shown.add(call.group(1));
            }
        }
        checks.same("the calls that are shown", shown.toString(), face().keySet().toString());
    }

    private static void eachCallHasARow(Checks checks, String text) {
        Map<String, Integer> rows = new TreeMap<>();
        Matcher row = ROW.matcher(text);
        while (row.find()) {
            rows.put(row.group(1), split(row.group(2)).size());
        }
        checks.same("the calls that have a row, with their parameters", rows.toString(), face().toString());
    }

    private static void eachConstantIsTold(Checks checks, String text) {
        checks.isTrue("REFUSED is told", text.contains("`REFUSED` (" + NearDesk.REFUSED + ")"));
        checks.isTrue("NONE is told", text.contains("`NONE` (" + NearDesk.NONE + ")"));
        checks.isTrue("FULL is told", text.contains("`FULL` (" + NearDesk.FULL + ")"));
    }

    /** A name tells one file; two with "to" between them tell those that stand between, too. */
    private static void eachTestIsTold(Checks checks, String text) throws IOException {
        Set<String> there = testFiles();
        Set<String> told = new TreeSet<>();
        Matcher name = CLASS_NAME.matcher(text);
        while (name.find()) {
            String last = name.group(2) == null ? name.group(1) : name.group(2);
            told.add(name.group(1));
            told.add(last);
            there.stream().filter(n -> n.compareTo(name.group(1)) > 0 && n.compareTo(last) < 0).forEach(told::add);
        }
        checks.same("the files of the tests that are told", told.toString(), there.toString());
    }

    private static void pathsAreThere(Checks checks, String text) {
        Matcher path = PATH.matcher(text);
        while (path.find()) {
            checks.isTrue(path.group() + " is there", Files.exists(Path.of(path.group())));
        }
    }

    private static List<String> shownLines(String text) {
        List<String> lines = new ArrayList<>();
        Matcher block = SHOWN.matcher(text);
        while (block.find()) {
            block.group(1).lines().filter(line -> !line.equals("NearDesk desk = new NearDesk();")).forEach(lines::add);
        }
        return lines;
    }

    private static String answer(NearDesk desk, String name, String arguments) throws ReflectiveOperationException {
        Object[] numbers = split(arguments).stream().map(Integer::valueOf).toArray();
        Class<?>[] types = new Class<?>[numbers.length];
        Arrays.fill(types, int.class);
        return String.valueOf(NearDesk.class.getMethod(name, types).invoke(desk, numbers));
    }

    private static List<String> split(String arguments) {
        return arguments.isEmpty() ? List.of() : List.of(arguments.split(", "));
    }

    /** The name of each public method, and how many parameters it has. */
    private static Map<String, Integer> face() {
        Map<String, Integer> face = new TreeMap<>();
        for (Method m : NearDesk.class.getDeclaredMethods()) {
            if (Modifier.isPublic(m.getModifiers())) {
                face.put(m.getName(), m.getParameterCount());
            }
        }
        return face;
    }

    private static Set<String> testFiles() throws IOException {
        try (Stream<Path> files = Files.list(TESTS)) {
            return files.map(f -> f.getFileName().toString().replace(".java", ""))
                    .collect(Collectors.toCollection(TreeSet::new));
        }
    }
}
