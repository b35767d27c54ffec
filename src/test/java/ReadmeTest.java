import java.io.IOException;
import java.net.URL;
import java.net.URLClassLoader;
import java.nio.file.Files;
import java.nio.file.Path;
import java.util.List;
import java.util.regex.Matcher;
import java.util.regex.Pattern;
import java.util.stream.Stream;
import javax.tools.ToolProvider;

/** README.md's lines of Java are compiled as they stand, and each call must answer what is told behind it. */
public final class ReadmeTest {
    private static final Path README = Path.of("README.md"), TESTS = Path.of("src/test/java");
    private static final Path PLACE = Path.of("build/readme"), CLASSES = Path.of("build/project");
    private static final Pattern BLOCK = Pattern.compile("(?ms)^```java\n(.*?)^```$");
    private static final Pattern CALL = Pattern.compile("(x\\.\\w+\\(.*\\));\\s+// (-?\\d+)(: .*)?");
    private static final Due due = new Due();

    public static void main(String[] args) throws IOException, ReflectiveOperationException {
        String readme = Files.readString(README);
        example(readme);
        namesOfTests(readme);
        is("README.md says how to run the tests", readme.contains(".ci/run"));
        due.end("ReadmeTest");
    }

    private static void is(String what, boolean so) {
        due.is(what, so ? 1 : 0, 1);
    }

    private static void example(String readme) throws IOException, ReflectiveOperationException {
        StringBuilder code = new StringBuilder();
        Matcher blocks = BLOCK.matcher(readme);
        while (blocks.find()) {
            for (String line : blocks.group(1).split("\n")) code.append(checked(line)).append('\n');
        }
        for (Object[] answer : run(code.toString())) due.is("README: " + answer[0], (Long) answer[1], (Long) answer[2]);
    }

    /** A call that stands alone must have its answer behind it. */
    private static String checked(String line) {
        Matcher call = CALL.matcher(line);
        if (call.matches()) {
            String name = call.group(1).replace("\"", "\\\"");
            return "all.add(new Object[] {\"" + name + "\", (long) " + call.group(1) + ", " + call.group(2) + "L});";
        }
        is("an answer stands behind: " + line, !line.startsWith("x."));
        return line;
    }

    private static List<Object[]> run(String code) throws IOException, ReflectiveOperationException {
        Files.createDirectories(PLACE);
        Path file = PLACE.resolve("Example.java");
        Files.writeString(file, "public class Example {\npublic static java.util.List<Object[]> run() {\n"
            + "java.util.List<Object[]> all = new java.util.ArrayList<>();\n" + code + "return all;\n}\n}\n");
        int wrong = ToolProvider.getSystemJavaCompiler().run(null, null, null,
            "-proc:none", "-cp", CLASSES.toString(), "-d", PLACE.toString(), file.toString());
        is("README.md's lines compile", wrong == 0);
        if (wrong != 0) return List.of();
        try (URLClassLoader loader = new URLClassLoader(new URL[] {PLACE.toUri().toURL()})) {
            List<?> answers = (List<?>) loader.loadClass("Example").getMethod("run").invoke(null);
            is("README.md has an example with answers", answers.size() > 10);
            return answers.stream().map(one -> (Object[]) one).toList();
        }
    }

    private static void namesOfTests(String readme) throws IOException {
        try (Stream<Path> files = Files.list(TESTS)) {
            for (Path file : files.sorted().toList()) {
                String name = file.getFileName().toString().replace(".java", "");
                if (!name.endsWith("Test")) continue;
                String told = name.startsWith("EdgesOf") ? "EdgesOf..Test" : name;
                is("README.md tells of " + name, readme.contains("`" + told + "`"));
            }
        }
    }
}
