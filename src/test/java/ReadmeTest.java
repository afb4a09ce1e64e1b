import java.io.IOException;
import java.lang.reflect.InvocationTargetException;
import java.lang.reflect.Method;
import java.lang.reflect.Modifier;
import java.nio.file.Files;
import java.nio.file.Path;
import java.util.List;
import java.util.NoSuchElementException;
import java.util.regex.Matcher;
import java.util.regex.Pattern;
import java.util.stream.Stream;

/** README.md tells the truth: its examples answer as it says, and no call or test is left out. */
public final class ReadmeTest {
    private static final Pattern CALL = Pattern.compile("desk\\.(\\w+)\\((.*)\\);\\s+// (-?\\w+)(?::.*)?");
    private static final String BEGIN = "SwitchDesk desk = new SwitchDesk();";

    private SwitchDesk desk;
    private int calls;

    public static void main(String[] args) throws IOException, IllegalAccessException {
        List<String> lines = Files.readAllLines(Path.of("README.md"));
        ReadmeTest readme = new ReadmeTest();
        readme.examples(lines);
        readme.everyCall(String.join("\n", lines));
        readme.everyTest(String.join("\n", lines));
        System.out.println(readme.calls + " calls of README.md");
        Check.close();
    }

    private void examples(List<String> lines) throws IllegalAccessException {
        boolean inside = false;
        for (String line : lines) {
            if (line.startsWith("```")) {
                inside = line.equals("```java");
            } else if (inside && line.equals(BEGIN)) {
                desk = new SwitchDesk();
            } else if (inside) {
                example(line);
            }
        }
        Check.due("README.md has calls", calls > 0, true);
    }

    private void example(String line) throws IllegalAccessException {
        Matcher m = CALL.matcher(line);
        if (!m.matches() || desk == null) {
            Check.report("README.md has a line that is no call: " + line);
            return;
        }
        calls++;
        Check.due(line, answer(m.group(1), m.group(2).split(", *")), m.group(3));
    }

    private String answer(String name, String[] given) throws IllegalAccessException {
        Object[] arguments = Stream.of(given).filter(s -> !s.isEmpty()).map(ReadmeTest::number).toArray();
        for (Method m : SwitchDesk.class.getMethods()) {
            if (m.getName().equals(name) && m.getParameterCount() == arguments.length) {
                return call(m, arguments);
            }
        }
        return "no such call";
    }

    private String call(Method m, Object[] arguments) throws IllegalAccessException {
        try {
            return String.valueOf(m.invoke(desk, arguments));
        } catch (InvocationTargetException e) {
            return e.getCause() instanceof NoSuchElementException ? "NoSuchElementException" : "" + e.getCause();
        }
    }

    private static Integer number(String s) {
        return s.startsWith("'") ? Integer.valueOf(s.charAt(1)) : Integer.decode(s);
    }

    private void everyCall(String page) {
        for (Method m : SwitchDesk.class.getDeclaredMethods()) {
            if (Modifier.isPublic(m.getModifiers())) {
                Check.due("README.md has a row of " + m.getName(), page.contains("\n| `" + m.getName() + "("), true);
            }
        }
    }

    private void everyTest(String page) throws IOException {
        try (Stream<Path> files = Files.list(Path.of("src/test/java"))) {
            files.map(f -> f.getFileName().toString()).filter(f -> f.endsWith("Test.java"))
                .map(f -> f.replace(".java", ""))
                .forEach(f -> Check.due("README.md has a row of " + f, page.matches("(?s).*\n\\| [^|]*\\b" + f + "\\b.*"), true));
        }
    }
}
