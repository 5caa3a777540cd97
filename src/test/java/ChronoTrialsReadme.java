import java.io.File;
import java.net.URL;
import java.net.URLClassLoader;
import java.nio.file.Files;
import java.nio.file.Path;
import java.util.ArrayList;
import java.util.List;
import java.util.Set;
import java.util.TreeSet;
import java.util.regex.Matcher;
import java.util.regex.Pattern;
import java.util.stream.Stream;
import javax.tools.ToolProvider;

/**
 * What README.md says of the class is so: its example compiles, each answer that stands behind a call
 * is the class's, every call of the face is in it, and its list of tests is the project's. It is run
 * from the project's directory.
 */
public final class ChronoTrialsReadme {
    private static final Path README = Path.of("README.md");
    private static final Path TESTS = Path.of("src", "test", "java");
    private static final String FIRST_LINE = "ChronoTrials house = new ChronoTrials();";
    private static final Pattern CALL =
        Pattern.compile("(?:int|boolean) (\\w+) = house\\.(\\w+)\\(.*\\);\\s+// (-?\\d+|true|false)(?:: .*)?");
    private static final Pattern LISTED = Pattern.compile("- `(ChronoTrials\\w+)`: .*");
    private static final Set<String> FACE =
        Set.of("admit", "prize", "frost", "trial", "annul", "place", "tell", "ask", "count");

    private static int wrong = 0;

    public static void main(String[] args) throws Exception {
        List<String> readme = Files.readAllLines(README);
        List<String> example = example(readme);
        checkForm(example);
        if (wrong == 0) {
            runExample(example);
        }
        checkListOfTests(readme);
        System.out.println(wrong == 0 ? "README.md is as due" : wrong + " things in README.md are not as due");
        if (wrong != 0) {
            System.exit(1);
        }
    }

    private static List<String> example(List<String> readme) {
        List<String> lines = new ArrayList<>();
        boolean inside = false;
        for (String line : readme) {
            if (line.startsWith("```")) {
                inside = line.equals("```java");
            } else if (inside) {
                lines.add(line);
            }
        }
        return lines;
    }

    // A line whose answer is not told could not be wrong, so none such is let through.
    private static void checkForm(List<String> example) {
        if (example.isEmpty() || !example.get(0).equals(FIRST_LINE)) {
            tell("the example does not begin with: " + FIRST_LINE);
            return;
        }
        Set<String> called = new TreeSet<>();
        for (String line : example.subList(1, example.size())) {
            Matcher call = CALL.matcher(line);
            if (call.matches()) {
                called.add(call.group(2));
            } else {
                tell("no call with its answer: " + line);
            }
        }
        if (!called.equals(FACE)) {
            tell("the example calls " + called + ", the face is " + new TreeSet<>(FACE));
        }
    }

    private static void runExample(List<String> example) throws Exception {
        Path folder = Files.createTempDirectory("readme");
        Path source = folder.resolve("Example.java");
        try {
            Files.write(source, program(example));
            String classPath = System.getProperty("java.class.path");
            int compiled = ToolProvider.getSystemJavaCompiler().run(null, null, null,
                "-encoding", "UTF-8", "-cp", classPath, "-d", folder.toString(), source.toString());
            if (compiled != 0) {
                tell("the example does not compile");
                return;
            }
            for (String answer : answersOf(folder)) {
                tell(answer);
            }
        } finally {
            delete(folder);
        }
    }

    /** The example's own lines, and behind each call a comparison with the answer it tells. */
    private static List<String> program(List<String> example) {
        List<String> lines = new ArrayList<>();
        lines.add("public final class Example {");
        lines.add("public static void run(java.util.List<String> notAsDue) {");
        for (String line : example) {
            lines.add(line);
            Matcher call = CALL.matcher(line);
            if (call.matches()) {
                String name = call.group(1);
                lines.add("if (" + name + " != " + call.group(3) + ") { notAsDue.add(\"" + name + " is \" + " + name
                    + " + \", README.md says " + call.group(3) + "\"); }");
            }
        }
        lines.add("}");
        lines.add("}");
        return lines;
    }

    private static List<String> answersOf(Path folder) throws Exception {
        List<String> answers = new ArrayList<>();
        try (URLClassLoader loader = new URLClassLoader(new URL[] {folder.toUri().toURL()})) {
            loader.loadClass("Example").getMethod("run", List.class).invoke(null, answers);
        }
        return answers;
    }

    private static void delete(Path folder) {
        File[] files = folder.toFile().listFiles();
        for (File file : files == null ? new File[0] : files) {
            file.delete();
        }
        folder.toFile().delete();
    }

    private static void checkListOfTests(List<String> readme) throws Exception {
        Set<String> listed = new TreeSet<>();
        for (String line : readme) {
            Matcher test = LISTED.matcher(line);
            if (test.matches()) {
                listed.add(test.group(1) + ".java");
            }
        }
        Set<String> there = new TreeSet<>();
        try (Stream<Path> files = Files.list(TESTS)) {
            files.forEach(file -> there.add(file.getFileName().toString()));
        }
        if (!listed.equals(there)) {
            tell("it lists the tests " + listed + ", there are " + there);
        }
    }

    private static void tell(String what) {
        wrong++;
        System.out.println("README.md: " + what);
    }
}
