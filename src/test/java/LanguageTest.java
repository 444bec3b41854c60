import java.io.IOException;
import java.nio.file.Files;
import java.nio.file.Path;
import java.util.List;
import java.util.Set;
import java.util.TreeSet;
import java.util.regex.Matcher;
import java.util.regex.Pattern;

/** Looks in the program's text for what LANGUAGE.md leaves out. It is run from the project's directory. */
public final class LanguageTest {

    private static final List<String> LEFT_OUT = List.of(
            "->", "::", "\\bimport\\b", "\\bpackage\\b", "\\btry\\b", "\\bcatch\\b", "\\bfinally\\b", "\\bsynchronized\\b",
            "\\bassert\\b", "\\bvolatile\\b", "\\bnative\\b", "\\bdouble\\b", "\\bnull\\b", "\\bvar\\b", "Exact\\s*\\(",
            "static\\s*\\{", "\\bSystem\\.(?!arraycopy\\b)", "\\bMath\\.(?!abs\\b|min\\b|max\\b)", "\\.hashCode\\b", "\\.toString\\b",
            "\"\\s*\\+", "\\+\\s*\"", "@\\w", "\\[\\]\\s*\\[\\]");

    private static final Set<String> EXCEPTIONS = Set.of(
            "IllegalStateException", "IllegalArgumentException", "IndexOutOfBoundsException");

    private static void leftOut(String code) {
        for (String pattern : LEFT_OUT) {
            Matcher matcher = Pattern.compile(pattern).matcher(code);
            Check.same("the program uses " + pattern, matcher.find(), false);
        }
        for (int at = 0; at < code.length(); at++) {
            if (code.charAt(at) > 126) {
                Check.tell("a sign over 126 at " + at);
            }
        }
    }

    private static void thrown(String code) {
        Matcher matcher = Pattern.compile("\\bthrow\\b\\s+([^;]*);").matcher(code);
        Set<String> seen = new TreeSet<>();
        while (matcher.find()) {
            Matcher written = Pattern.compile("new (\\w+)\\((\"[^\"]*\")?\\)").matcher(matcher.group(1));
            Check.same("thrown as written: " + matcher.group(), written.matches(), true);
            written.reset();
            if (written.matches()) {
                seen.add(written.group(1));
            }
        }
        Check.sameText("exceptions", seen.toString(), new TreeSet<>(EXCEPTIONS).toString());
    }

    /** Objects are made in constructors and field initialisers alone: a run's room is small. */
    private static void made(String code) {
        Matcher matcher = Pattern.compile("\\bnew (\\w+)").matcher(code);
        while (matcher.find()) {
            String name = matcher.group(1);
            int line = code.lastIndexOf('\n', matcher.start());
            String before = code.substring(line + 1, matcher.start());
            boolean known = EXCEPTIONS.contains(name) || before.contains("final ")
                    || before.matches("\\s+\\w+(\\[\\w+\\])? = ");
            Check.same("made at: " + before + matcher.group(), known, true);
        }
    }

    private static void methodLengths(String code) {
        int start = 0;
        String head = "";
        int number = 0;
        for (String line : code.split("\n")) {
            number++;
            if (line.matches("(    |        )[a-z][^;=]*\\(.*") && !line.trim().startsWith("for") && !line.trim().startsWith("if")) {
                start = number;
                head = line;
            }
            if (line.matches("(    |        )\\}") && start != 0) {
                Check.same("too long: " + head, number - start < 60, true);
                start = 0;
            }
        }
    }

    public static void main(String[] args) throws IOException {
        String text = Files.readString(Path.of("src/main/java/IntercompanyLedger.java"));
        String code = text.replaceAll("(?s)/\\*.*?\\*/", "").replaceAll("//[^\n]*", "");
        leftOut(code);
        thrown(code);
        made(code.replaceAll("\"[^\"]*\"", "\"\""));
        methodLengths(code);
        Check.end();
    }
}
