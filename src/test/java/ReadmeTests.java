import java.io.IOException;
import java.lang.reflect.InvocationTargetException;
import java.lang.reflect.Method;
import java.nio.file.Files;
import java.nio.file.Path;
import java.util.List;
import java.util.regex.Matcher;
import java.util.regex.Pattern;
import java.util.stream.Stream;

/** README.md tells how to use the class and how to run its tests, as they now stand. */
final class ReadmeTests {
    private static final Path README = Path.of("README.md");
    private static final Pattern CALL = Pattern.compile("x\\.(\\w+)\\((.*?)\\); +// ([-\\w]+)(:.*)?");
    private static final Pattern TEXT = Pattern.compile("for \\(char letter : \"(.*)\"\\.toCharArray\\(\\)\\) \\{");

    private ReadmeTests() {
    }

    static void all() {
        Check.test("readme: the calls that it shows answer what it tells", ReadmeTests::calls);
        Check.test("readme: every file of the tests is named", ReadmeTests::files);
    }

    private static List<String> lines() {
        try {
            return Files.readAllLines(README);
        } catch (IOException e) {
            throw new IllegalStateException(e);
        }
    }

    private static void calls() {
        HostageRings x = new HostageRings();
        boolean shown = false;
        int calls = 0;
        for (String line : lines()) {
            if (line.startsWith("```")) {
                shown = line.equals("```java");
                continue;
            }
            Matcher text = TEXT.matcher(line);
            Matcher call = CALL.matcher(line);
            if (shown && text.matches()) {
                for (char letter : text.group(1).toCharArray()) {
                    x.type(letter);
                }
            } else if (shown && call.matches()) {
                calls++;
                String got = answer(x, call.group(1), call.group(2));
                Check.isTrue(line + " answered " + got + ": as told", got.equals(call.group(3)));
            } else if (shown) {
                Check.isTrue("a line that tells no answer: '" + line + "'", line.matches(
                        "|HostageRings x = new HostageRings\\(\\);|    x\\.type\\(letter\\);|\\}"));
            }
        }
        Check.isTrue("calls are shown", calls > 10);
    }

    private static String answer(HostageRings x, String name, String values) {
        String[] given = values.isEmpty() ? new String[0] : values.split(", ");
        Object[] arguments = new Object[given.length];
        for (int k = 0; k < given.length; k++) {
            boolean truth = given[k].equals("true") || given[k].equals("false");
            arguments[k] = truth ? (Object) Boolean.valueOf(given[k]) : (Object) Integer.valueOf(given[k]);
        }
        for (Method m : HostageRings.class.getMethods()) {
            if (m.getName().equals(name) && m.getDeclaringClass() == HostageRings.class) {
                return outcome(x, m, arguments);
            }
        }
        return "no method " + name;
    }

    private static String outcome(HostageRings x, Method m, Object[] arguments) {
        try {
            return String.valueOf(m.invoke(x, arguments));
        } catch (InvocationTargetException e) {
            return e.getCause().getClass().getSimpleName();
        } catch (IllegalAccessException e) {
            return e.toString();
        }
    }

    private static void files() {
        String readme = String.join("\n", lines());
        try (Stream<Path> files = Files.list(Path.of("src/test/java"))) {
            files.forEach(file -> {
                String name = file.getFileName().toString().replace(".java", "");
                Check.isTrue("README.md names " + name, readme.contains("`" + name + "`"));
            });
        } catch (IOException e) {
            throw new IllegalStateException(e);
        }
        for (String name : List.of(".ci/run", "src/main/java/HostageRings.java", "src/test/java", "../shared/tests",
                "../shared/DOC.md", "../shared/LANGUAGE.md")) {
            Check.isTrue("README.md names " + name, readme.contains("`" + name + "`"));
        }
    }
}
