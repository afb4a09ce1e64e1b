import java.io.IOException;
import java.nio.file.Files;
import java.nio.file.Path;
import java.util.List;
import java.util.regex.Matcher;
import java.util.regex.Pattern;

/** Rules of LANGUAGE.md that can be read off the file; .ci/run starts it in the project's folder. */
public final class SourceTest {
    private static final String[] OUTSIDE = {"->", "::", "\\btry\\b", "\\bcatch\\b", "\\bfinally\\b", "\\bassert\\b",
        "\\bsynchronized\\b", "\\bpackage\\b", "\\bvar\\b", "static \\{", "Exact\\(", "\\.getMessage", "\\bSystem\\.(?!arraycopy)",
        "Integer\\.M", "Long\\.M", "\\bequals\\(", "hashCode", "toString", "\\bprotected\\b", "new [A-Za-z]+\\[\\]\\["};

    public static void main(String[] args) throws IOException {
        List<String> lines = Files.readAllLines(Path.of("src/main/java/SwitchDesk.java"));
        for (int i = 0; i < lines.size(); i++) {
            String code = lines.get(i).replaceAll("//.*|^\\s*/?\\*.*", "");
            for (String word : OUTSIDE) {
                Check.due("line " + (i + 1) + " has " + word, Pattern.compile(word).matcher(code).find(), false);
            }
            Check.due("line " + (i + 1) + " is ASCII", lines.get(i).chars().allMatch(c -> c < 128), true);
            throwsKnown(i + 1, code);
            imports(i + 1, code);
        }
        methodsAreShort(lines);
        Check.close();
    }

    private static void throwsKnown(int line, String code) {
        if (code.contains("throw ")) {
            Check.due("line " + line, code.trim(), "throw new NoSuchElementException();");
        }
    }

    private static void imports(int line, String code) {
        if (code.startsWith("import ")) {
            boolean known = code.equals("import java.util.Arrays;") || code.equals("import java.util.NoSuchElementException;");
            Check.due("line " + line + " imports what is allowed", known, true);
        }
    }

    private static void methodsAreShort(List<String> lines) {
        Pattern head = Pattern.compile("^( {4}| {8})[a-z].*\\) (throws \\w+ )?\\{$");
        int from = -1;
        String end = "";
        for (int i = 0; i < lines.size(); i++) {
            Matcher m = head.matcher(lines.get(i));
            if (from < 0 && m.matches()) {
                from = i;
                end = m.group(1) + "}";
            } else if (from >= 0 && lines.get(i).equals(end)) {
                Check.due("lines of the method at " + (from + 1) + ", at most 60", i - from + 1 <= 60, true);
                from = -1;
            }
        }
    }
}
