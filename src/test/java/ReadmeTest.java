import java.io.IOException;
import java.io.UncheckedIOException;
import java.lang.reflect.InvocationTargetException;
import java.lang.reflect.Method;
import java.lang.reflect.Modifier;
import java.nio.file.Files;
import java.nio.file.Path;
import java.util.ArrayList;
import java.util.List;
import java.util.Set;
import java.util.TreeSet;
import java.util.regex.Matcher;
import java.util.regex.Pattern;
import java.util.stream.Stream;

/** What README.md says: its calls are made as they stand there, and answer what stands behind them. */
final class ReadmeTest {
    private static final Pattern MAKES = Pattern.compile("AlarmMatrix x = new AlarmMatrix\\((\\d+)\\);\\s*(//.*)?");
    private static final Pattern CALLS = Pattern.compile("x\\.(\\w+)\\((.*)\\);\\s*// ([^:]*)(:.*)?");

    private static AlarmMatrix x = null;
    private static final Set<String> shown = new TreeSet<>();

    public static void main(String[] args) {
        Check.sentence("README.md", "the calls answer what it says", ReadmeTest::callsAnswerWhatItSays);
        Check.sentence("README.md", "each call of the face is shown", ReadmeTest::allCallsAreShown);
        Check.sentence("README.md", "each test is told of", ReadmeTest::allTestsAreToldOf);
        Check.sentence("README.md", "the way to run the tests", ReadmeTest::wayToRunTheTests);
        Check.end();
    }

    private static List<String> lines() {
        try {
            return Files.readAllLines(Path.of("README.md"));
        } catch (IOException e) {
            throw new UncheckedIOException(e);
        }
    }

    private static List<String> linesOfBlocks(String language) {
        List<String> found = new ArrayList<>();
        boolean within = false;
        for (String line : lines()) {
            if (line.startsWith("```")) {
                within = line.equals("```" + language);
            } else if (within) {
                found.add(line);
            }
        }
        return found;
    }

    private static void callsAnswerWhatItSays() {
        for (String line : linesOfBlocks("java")) {
            Matcher makes = MAKES.matcher(line);
            Matcher calls = CALLS.matcher(line);
            if (makes.matches()) {
                x = new AlarmMatrix(Integer.parseInt(makes.group(1)));
            } else if (calls.matches()) {
                shown.add(calls.group(1));
                Check.same(line, outcome(calls.group(1), calls.group(2)), calls.group(3).trim());
            } else {
                Check.same(line, "a line that is not understood", "a call and its answer");
            }
        }
    }

    private static String outcome(String name, String arguments) {
        Method method = methodNamed(name);
        if (method == null) {
            return "no such call";
        }
        try {
            return String.valueOf(method.invoke(x, valuesOf(arguments)));
        } catch (InvocationTargetException e) {
            return "throws " + e.getCause().getClass().getSimpleName();
        } catch (IllegalAccessException e) {
            return "not to be called";
        }
    }

    private static Method methodNamed(String name) {
        for (Method m : AlarmMatrix.class.getDeclaredMethods()) {
            if (Modifier.isPublic(m.getModifiers()) && m.getName().equals(name)) {
                return m;
            }
        }
        return null;
    }

    private static Object[] valuesOf(String arguments) {
        if (arguments.isEmpty()) {
            return new Object[0];
        }
        return Stream.of(arguments.split(", ")).map(ReadmeTest::valueOf).toArray();
    }

    private static Object valueOf(String argument) {
        if (argument.equals("true") || argument.equals("false")) {
            return Boolean.valueOf(argument);
        }
        if (argument.matches("'.'")) {
            return (int) argument.charAt(1);
        }
        return Integer.valueOf(argument);
    }

    private static void allCallsAreShown() {
        Set<String> face = new TreeSet<>();
        for (Method m : AlarmMatrix.class.getDeclaredMethods()) {
            if (Modifier.isPublic(m.getModifiers())) {
                face.add(m.getName());
            }
        }
        Check.same("calls that are shown", shown.toString(), face.toString());
    }

    private static void allTestsAreToldOf() {
        Set<String> told = new TreeSet<>();
        for (String line : lines()) {
            if (line.startsWith("| `")) {
                told.add(line.split("`")[1] + ".java");
            }
        }
        try (Stream<Path> files = Files.list(Path.of("src/test/java"))) {
            Set<String> there = new TreeSet<>();
            files.map(f -> f.getFileName().toString()).filter(f -> f.endsWith("Test.java")).forEach(there::add);
            Check.same("tests that are told of", told.toString(), there.toString());
        } catch (IOException e) {
            throw new UncheckedIOException(e);
        }
    }

    private static void wayToRunTheTests() {
        Check.same("the command", linesOfBlocks("sh").toString(), "[.ci/run]");
        Check.yes("it can be run", () -> Files.isExecutable(Path.of(".ci/run")));
    }
}
