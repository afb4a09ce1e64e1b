import java.io.IOException;
import java.lang.reflect.Method;
import java.nio.file.Files;
import java.nio.file.Path;
import java.util.ArrayList;
import java.util.Arrays;
import java.util.List;
import java.util.regex.Matcher;
import java.util.regex.Pattern;
import java.util.stream.Stream;

/**
 * No sentence of the document goes without a test: each test bears its promise's number and quotes the
 * words it holds; they stand in the document, and every sentence of the promises and of the terms is quoted.
 * .ci/run starts it in the project's folder.
 */
public final class DocTest {
    private static final int PROMISES = 22;
    private static final Pattern NAME = Pattern.compile("promise(\\d\\d)_\\w+");

    private final String document;
    private final List<Method> tests = new ArrayList<>();

    private DocTest(String document) {
        this.document = plain(document);
    }

    public static void main(String[] args) throws IOException, ClassNotFoundException {
        Path file = Path.of("../shared/DOC.md");
        boolean there = Files.isReadable(file);
        DocTest doc = new DocTest(there ? Files.readString(file) : "");
        doc.findTests();
        if (!there) {
            System.out.println("no document beside the project: its words are not compared");
            Check.close();
            return;
        }
        doc.quotesStand();
        for (int n = 1; n <= PROMISES; n++) {
            doc.promiseIsQuoted(n);
        }
        doc.quoted("Terms", doc.section("## Terms ", "## Promise 1:"), "");
        System.out.println(doc.tests.size() + " tests quote the document");
        Check.close();
    }

    private static String plain(String text) {
        return text.replaceAll("```(text)?", " ").replaceAll("==== \\d\\.", " ").replaceAll("\\s+", " ");
    }

    private void findTests() throws IOException, ClassNotFoundException {
        List<String> names = new ArrayList<>();
        try (Stream<Path> files = Files.list(Path.of("src/test/java"))) {
            files.map(f -> f.getFileName().toString()).filter(f -> f.endsWith("Test.java")).sorted()
                .forEach(f -> names.add(f.replace(".java", "")));
        }
        for (String name : names) {
            for (Method m : Class.forName(name).getDeclaredMethods()) {
                boolean named = NAME.matcher(m.getName()).matches();
                boolean quotes = m.isAnnotationPresent(Says.class);
                Check.due(name + "." + m.getName() + " has a number and a quotation, or neither", named, quotes);
                if (named && quotes) {
                    tests.add(m);
                }
            }
        }
    }

    private static int promiseOf(Method m) {
        Matcher name = NAME.matcher(m.getName());
        return name.matches() ? Integer.parseInt(name.group(1)) : 0;
    }

    private static String quoteOf(Method m) {
        return m.getAnnotation(Says.class).value();
    }

    private void quotesStand() {
        for (Method m : tests) {
            Check.due(m.getName() + ": the document says \"" + quoteOf(m) + "\"", document.contains(quoteOf(m)), true);
            Check.due(m.getName() + ": there is such a promise", promiseOf(m) >= 1 && promiseOf(m) <= PROMISES, true);
        }
    }

    private void promiseIsQuoted(int n) {
        String section = section("## Promise " + n + ":", n == PROMISES ? "## Not promised" : "## Promise " + (n + 1) + ":");
        String said = section.substring(section.lastIndexOf("`:") + 2);
        quoted("promise " + n, said, String.format("promise%02d_", n));
    }

    private String section(String from, String to) {
        int start = document.indexOf(from);
        int end = document.indexOf(to);
        Check.due("the document has " + from + " .. " + to, start >= 0 && end > start, true);
        return start >= 0 && end > start ? document.substring(start + from.length(), end) : "";
    }

    /** Every sentence shares a part with the quotation of a test whose name begins so. */
    private void quoted(String what, String text, String begin) {
        boolean[] held = new boolean[text.length()];
        for (Method m : tests) {
            String quote = quoteOf(m);
            for (int at = text.indexOf(quote); at >= 0 && m.getName().startsWith(begin); at = text.indexOf(quote, at + 1)) {
                Arrays.fill(held, at, at + quote.length(), true);
            }
        }
        int from = 0;
        Matcher stop = Pattern.compile("[^.\\s]\\.\\)?\\s+(?=[A-Z(])|$").matcher(text);
        while (stop.find()) {
            sentence(what, text, held, from, stop.end());
            from = stop.end();
        }
    }

    private void sentence(String what, String text, boolean[] held, int from, int to) {
        if (text.substring(from, to).isBlank()) {
            return;
        }
        int letters = 0;
        for (int i = from; i < to; i++) {
            letters += held[i] ? 1 : 0;
        }
        Check.due(what + " says \"" + text.substring(from, to).trim() + "\", which is quoted", letters > 0, true);
    }
}
