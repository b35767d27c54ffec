import java.io.IOException;
import java.io.StringWriter;
import java.lang.reflect.InvocationTargetException;
import java.nio.file.Files;
import java.nio.file.Path;
import java.util.ArrayList;
import java.util.LinkedHashSet;
import java.util.List;
import java.util.Set;
import java.util.concurrent.Callable;
import java.util.concurrent.ExecutorService;
import java.util.concurrent.Executors;
import java.util.concurrent.Future;
import java.util.concurrent.TimeUnit;
import java.util.regex.Matcher;
import java.util.regex.Pattern;
import javax.tools.JavaCompiler;
import javax.tools.ToolProvider;

/**
 * Breaks the class at one place at a time, and tells which breaks no test of the edges sees. It is run by hand, since
 * it takes minutes: java -cp build/project Mutants
 */
public final class Mutants {
    private static final Path SOURCE = Path.of("src/main/java/InflatedRows.java");
    private static final Path TESTS = Path.of("build/project");
    private static final String[] EDGES = {
        "EdgesOfRowsTest", "EdgesOfTextsTest", "EdgesOfDoneTest", "EdgesOfGrowsTest", "EdgesOfForetoldTest",
        "EdgesOfAskedTest", "EdgesOfRefusalsTest",
    };
    private static final String[][] SWAPS = {
        {"<=", "<"}, {">=", ">"}, {"(?<![<>=-])<(?![<=])", "<="}, {"(?<![<>=-])>(?![>=])", ">="}, {"==", "!="}, {"!=", "=="},
        {"&&", "||"}, {"\\|\\|", "&&"}, {"(?<=[\\w)\\]]) \\+ (?=[\\w(])", " - "}, {"(?<=[\\w)\\]]) - (?=[\\w(])", " + "},
        {"\\|=", "&="}, {"&=", "|="}, {"\\+=", "-="}, {"-=", "+="}, {"!(?=[a-zA-Z])", ""},
        {"\\bBAD\\b(?=;)", "STATE"}, {"\\bSTATE\\b(?=;)", "BAD"}, {"\\bFULL\\b(?=;)", "BAD"}, {"\\bNONE\\b(?=;)", "BAD"},
        {"\\btrue\\b", "false"}, {"\\bfalse\\b", "true"}, {"\\bMath\\.min\\b", "Math.max"},
        {"\\bfound\\((?=[A-Z])", "(int) Math.min(0L, -1000010L - "}, {"\\bunfound\\(", "("},
    };

    private Mutants() {
    }

    private record Mutant(int line, String was, String is, String source) {
    }

    public static void main(String[] args) throws Exception {
        if (args.length > 0) {
            runEdges();
            return;
        }
        List<Mutant> mutants = mutants(Files.readAllLines(SOURCE));
        ExecutorService workers = Executors.newFixedThreadPool(Runtime.getRuntime().availableProcessors());
        List<Future<String>> told = new ArrayList<>();
        for (Mutant mutant : mutants) told.add(workers.submit((Callable<String>) () -> judge(mutant)));
        int seen = 0;
        int none = 0;
        for (int i = 0; i < told.size(); i++) {
            String verdict = told.get(i).get();
            if (verdict.equals("seen")) seen++;
            else if (verdict.equals("no class")) none++;
            else System.out.println(verdict + " " + mutants.get(i).line + ": " + mutants.get(i).was.strip() + "\n    "
                + mutants.get(i).is.strip());
        }
        workers.shutdown();
        System.out.println(mutants.size() + " breaks, " + seen + " seen, " + none + " that do not compile");
    }

    /** A test that fails ends the machine by itself. */
    private static void runEdges() throws ReflectiveOperationException {
        for (String name : EDGES) {
            try {
                Class.forName(name).getMethod("main", String[].class).invoke(null, (Object) new String[0]);
            } catch (InvocationTargetException thrown) {
                System.exit(2);
            }
        }
    }

    private static List<Mutant> mutants(List<String> lines) {
        List<Mutant> all = new ArrayList<>();
        for (int i = 0; i < lines.size(); i++) {
            String line = lines.get(i);
            String code = line.strip();
            if (code.isEmpty() || code.startsWith("/") || code.startsWith("*") || code.startsWith("public static")) continue;
            for (String other : changesOf(line)) all.add(with(lines, i, other));
            boolean next = i + 1 < lines.size();
            if (next && code.startsWith("if (") && lines.get(i + 1).strip().startsWith("if (")) all.add(swapped(lines, i));
        }
        return all;
    }

    private static Set<String> changesOf(String line) {
        Set<String> changes = new LinkedHashSet<>();
        for (String[] swap : SWAPS) {
            Matcher matcher = Pattern.compile(swap[0]).matcher(line);
            while (matcher.find()) changes.add(line.substring(0, matcher.start()) + swap[1] + line.substring(matcher.end()));
        }
        Matcher numbers = Pattern.compile("(?<![\\w.])\\d+(?![\\w.])").matcher(line);
        while (numbers.find()) {
            for (int step = -1; step <= 1; step += 2) {
                String other = "" + (Long.parseLong(numbers.group()) + step);
                changes.add(line.substring(0, numbers.start()) + other + line.substring(numbers.end()));
            }
        }
        String code = line.strip();
        boolean statement = code.endsWith(";") && !code.startsWith("return") && !code.contains("final ");
        if (statement && !code.startsWith("static") && !code.startsWith("case")) changes.add(line.replace(code, ";"));
        changes.remove(line);
        return changes;
    }

    private static Mutant with(List<String> lines, int i, String other) {
        List<String> changed = new ArrayList<>(lines);
        changed.set(i, other);
        return new Mutant(i + 1, lines.get(i), other, String.join("\n", changed));
    }

    private static Mutant swapped(List<String> lines, int i) {
        List<String> changed = new ArrayList<>(lines);
        changed.set(i, lines.get(i + 1));
        changed.set(i + 1, lines.get(i));
        return new Mutant(i + 1, lines.get(i), "behind " + lines.get(i + 1).strip(), String.join("\n", changed));
    }

    private static String judge(Mutant mutant) throws IOException, InterruptedException {
        Path place = Files.createTempDirectory("mutant");
        try {
            Path file = place.resolve("InflatedRows.java");
            Files.writeString(file, mutant.source);
            JavaCompiler compiler = ToolProvider.getSystemJavaCompiler();
            StringWriter told = new StringWriter();
            boolean fine = compiler.getTask(told, null, null, List.of("-d", place.toString(), "-proc:none"), null,
                compiler.getStandardFileManager(null, null, null).getJavaFileObjects(file)).call();
            if (!fine) return "no class";
            String path = place + ":" + TESTS;
            Process process = new ProcessBuilder("java", "-XX:TieredStopAtLevel=1", "-XX:+UseSerialGC", "-cp", path,
                "Mutants", "run").redirectErrorStream(true).redirectOutput(ProcessBuilder.Redirect.DISCARD).start();
            if (!process.waitFor(30, TimeUnit.SECONDS)) {
                process.destroyForcibly();
                return "seen";
            }
            return process.exitValue() == 0 ? "UNSEEN" : "seen";
        } finally {
            try (var files = Files.walk(place)) {
                for (Path one : files.sorted((a, b) -> b.compareTo(a)).toList()) Files.delete(one);
            }
        }
    }
}
