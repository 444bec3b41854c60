import java.io.IOException;
import java.lang.reflect.Method;
import java.net.URL;
import java.net.URLClassLoader;
import java.nio.file.Files;
import java.nio.file.Path;
import java.util.ArrayList;
import java.util.List;
import java.util.regex.Matcher;
import java.util.regex.Pattern;
import javax.tools.JavaCompiler;
import javax.tools.ToolProvider;

/** README.md is true: its code is compiled and run, and each call must answer what the comment behind it says. */
public final class ReadmeTest {

    private static final Pattern BLOCK = Pattern.compile("(?s)```java\n(.*?)```");
    private static final Pattern CALL = Pattern.compile("(ledger\\.\\w+\\(.*\\));\\s*// (?:(true|false|-?\\d+)\\b|throws (\\w+)).*");

    private static int answers = 0;

    /** Public, as the compiled example comes from another class loader. */
    public static void answered(String call, Object got, String due) {
        answers++;
        Check.sameText("README: " + call, String.valueOf(got), due);
    }

    private static String checked(String line) {
        Matcher call = CALL.matcher(line);
        if (!call.matches()) {
            return line;
        }
        String told = "\"" + call.group(1).replace("\"", "\\\"") + "\"";
        if (call.group(3) == null) {
            return "ReadmeTest.answered(" + told + ", " + call.group(1) + ", \"" + call.group(2) + "\");";
        }
        return "{ String got = \"nothing\"; try { " + call.group(1) + "; } catch (" + call.group(3) + " e) { got = \"thrown\"; } "
                + "ReadmeTest.answered(" + told + ", got, \"thrown\"); }";
    }

    private static String program(String readme) {
        List<String> blocks = new ArrayList<>();
        Matcher matcher = BLOCK.matcher(readme);
        while (matcher.find()) {
            blocks.add(matcher.group(1));
        }
        Check.same("blocks of code: a helper and an example", blocks.size(), 2);
        StringBuilder text = new StringBuilder("public final class ReadmeExample {\n").append(blocks.get(0));
        text.append("public static void main(String[] args) {\n");
        for (String line : blocks.get(1).split("\n")) {
            text.append(checked(line)).append('\n');
        }
        return text.append("}\n}\n").toString();
    }

    private static void example(String readme) throws IOException, ReflectiveOperationException {
        Path directory = Files.createDirectories(Path.of("build", "readme"));
        Path file = directory.resolve("ReadmeExample.java");
        Files.writeString(file, program(readme));
        JavaCompiler compiler = ToolProvider.getSystemJavaCompiler();
        int result = compiler.run(null, null, null, "-cp", System.getProperty("java.class.path"),
                "-d", directory.toString(), file.toString());
        Check.same("the example compiles", result, 0);
        if (result != 0) {
            return;
        }
        try (URLClassLoader loader = new URLClassLoader(new URL[] {directory.toUri().toURL()})) {
            Method main = loader.loadClass("ReadmeExample").getMethod("main", String[].class);
            main.invoke(null, (Object) new String[0]);
        }
        long told = readme.lines().filter(line -> line.startsWith("ledger.")).count();
        Check.same("each call has its answer", answers, told);
    }

    private static void names(String readme) throws IOException {
        for (Method method : SideBySide.FACE) {
            Check.same("README names " + method.getName(), readme.contains("`" + method.getName() + "`"), true);
        }
        try (var files = Files.list(Path.of("src/test/java"))) {
            for (Path file : files.toList()) {
                String name = file.getFileName().toString().replace(".java", "");
                if (name.endsWith("Test")) {
                    Check.same("README names " + name, readme.contains("| " + name + " |"), true);
                }
            }
        }
    }

    public static void main(String[] args) throws IOException, ReflectiveOperationException {
        String readme = Files.readString(Path.of("README.md"));
        example(readme);
        names(readme);
        Check.end();
    }
}
