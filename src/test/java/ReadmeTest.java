import java.io.IOException;
import java.net.URL;
import java.net.URLClassLoader;
import java.nio.file.Files;
import java.nio.file.Path;
import java.util.ArrayList;
import java.util.List;
import java.util.Map;
import java.util.Set;
import java.util.TreeSet;
import java.util.regex.Matcher;
import java.util.regex.Pattern;
import java.util.stream.Stream;
import javax.tools.JavaCompiler;
import javax.tools.ToolProvider;

/** What README.md shows: its Java compiles as it stands there, and answers as is said behind each call. */
public final class ReadmeTest {
    private static final Pattern BLOCK = Pattern.compile("```java\n(.*?)```", Pattern.DOTALL);
    private static final Pattern SHOWN =
        Pattern.compile("(x\\.(\\w+)\\([^;]*\\));(?:\\s*// (NONE|BAD|STATE|FULL|-?\\d+)\\b)?.*");
    private static final Map<String, Integer> NAMES =
        Map.of("NONE", -1000000, "BAD", -1000001, "STATE", -1000002, "FULL", -1000003);

    private final List<String> calls = new ArrayList<>();
    private final List<Integer> said = new ArrayList<>();
    private final Set<String> names = new TreeSet<>();
    private final StringBuilder program = new StringBuilder();

    public static void main(String[] args) throws Exception {
        String readme = Files.readString(Path.of("README.md"));
        new ReadmeTest().usesAnswerAsIsSaid(readme);
        theTableOfTestsIsWhole(readme);
        Due.due(".ci/run can be run", Files.isExecutable(Path.of(".ci/run")) ? 1 : 0, 1);
        Due.end();
    }

    private void usesAnswerAsIsSaid(String readme) throws Exception {
        Matcher blocks = BLOCK.matcher(readme);
        while (blocks.find()) {
            blocks.group(1).lines().forEach(this::take);
        }
        List<?> answers = performed();
        Due.due("answers of README.md", answers.size(), said.size());
        for (int i = 0; i < Math.min(answers.size(), said.size()); i++) {
            Due.due("README.md: " + calls.get(i), (Integer) answers.get(i), said.get(i));
        }
        Due.due("calls that README.md shows", names.size(), 35);
        Due.due("README.md shows no more calls than an object is good for", answers.size() <= 512 ? 1 : 0, 1);
    }

    /** Only feed(), as it stands in loops, is shown without its answer. */
    private void take(String line) {
        Matcher shown = SHOWN.matcher(line.trim());
        if (!shown.matches()) {
            program.append(line).append('\n');
            return;
        }
        names.add(shown.group(2));
        String answer = shown.group(3);
        if (answer == null) {
            Due.due("README.md says what it answers: " + line.trim(), shown.group(2).equals("feed") ? 1 : 0, 1);
            program.append(line).append('\n');
            return;
        }
        calls.add(shown.group(1));
        said.add(NAMES.containsKey(answer) ? NAMES.get(answer) : Integer.valueOf(answer));
        program.append("answers.add(").append(shown.group(1)).append(");\n");
    }

    private List<?> performed() throws Exception {
        JavaCompiler compiler = ToolProvider.getSystemJavaCompiler();
        Path home = Files.createTempDirectory("readme");
        try {
            Path source = home.resolve("Shown.java");
            Files.writeString(source, "public class Shown { public static java.util.List<Integer> perform() {\n"
                + "java.util.List<Integer> answers = new java.util.ArrayList<>();\n"
                + program + "return answers; } }\n");
            int fault = compiler.run(null, null, null, "-cp", System.getProperty("java.class.path"),
                "-d", home.toString(), source.toString());
            Due.due("README.md compiles", fault, 0);
            return fault == 0 ? load(home) : List.of();
        } finally {
            removeAll(home);
        }
    }

    private static List<?> load(Path home) throws Exception {
        try (URLClassLoader loader = new URLClassLoader(new URL[] {home.toUri().toURL()})) {
            return (List<?>) loader.loadClass("Shown").getMethod("perform").invoke(null);
        }
    }

    private static void removeAll(Path home) throws IOException {
        List<Path> all;
        try (Stream<Path> files = Files.list(home)) {
            all = files.toList();
        }
        for (Path file : all) {
            Files.delete(file);
        }
        Files.delete(home);
    }

    private static void theTableOfTestsIsWhole(String readme) throws IOException {
        Set<String> told = new TreeSet<>();
        for (Matcher m = Pattern.compile("(?m)^\\| `(\\w+Test)` \\|").matcher(readme); m.find();) {
            told.add(m.group(1) + ".java");
        }
        Set<String> there = new TreeSet<>();
        try (Stream<Path> files = Files.list(Path.of("src/test/java"))) {
            files.map(f -> f.getFileName().toString()).filter(f -> f.endsWith("Test.java")).forEach(there::add);
        }
        Due.due("README.md tells the tests " + told + ", there are " + there, told.equals(there) ? 1 : 0, 1);
    }
}
