import java.io.IOException;
import java.net.URL;
import java.net.URLClassLoader;
import java.nio.file.Files;
import java.nio.file.Path;
import java.util.ArrayList;
import java.util.List;
import java.util.regex.Matcher;
import java.util.regex.Pattern;
import javax.tools.ToolProvider;

/** The example of README.md compiles, and each of its calls answers what its line tells. */
public final class ReadmeTest {
    private static final String FIRST_LINE = "Reelrescue film = new Reelrescue();";
    // A call, perhaps kept under a name, and behind it what it answers.
    private static final Pattern CALL = Pattern.compile(
        "(?:int (\\w+) = )?(film\\..*\\));  // (throws \\w+|-?\\w+(?:\\.\\w+)?)(?::.*)?");
    private static final String EXAMPLE = "ReadmeExample";

    private static final Check check = new Check();

    public static void main(String[] args) throws Exception {
        List<String> calls = calls();
        List<String> answers = answersOf(program(calls));
        check.is("answers to the calls of README.md", calls.size(), answers.size());
        for (int i = 0; i < Math.min(calls.size(), answers.size()); i++) {
            String due = told(calls.get(i)).group(3);
            check.is(calls.get(i) + " answered " + answers.get(i), true, due.equals(answers.get(i)));
        }
        namesEveryTest();
        check.end();
    }

    private static List<String> calls() throws IOException {
        String readme = Files.readString(Path.of("README.md"));
        int start = readme.indexOf("```java\n" + FIRST_LINE + "\n");
        check.is("the example of README.md", true, start >= 0);
        String example = readme.substring(start + 8, readme.indexOf("```", start + 8));
        List<String> calls = new ArrayList<>();
        for (String line : example.split("\n")) {
            if (!line.isEmpty() && !line.startsWith("//") && !line.equals(FIRST_LINE)) {
                check.is(line + " tells what it answers", true, CALL.matcher(line).matches());
                calls.add(line);
            }
        }
        check.is("the example has calls", true, calls.size() > 0);
        return calls;
    }

    private static Matcher told(String line) {
        Matcher matcher = CALL.matcher(line);
        if (!matcher.matches()) {
            throw new IllegalArgumentException(line);
        }
        return matcher;
    }

    private static String program(List<String> calls) {
        StringBuilder program = new StringBuilder("public final class " + EXAMPLE + " {\n")
            .append("public static java.util.List<String> answers() {\n")
            .append("java.util.List<String> answers = new java.util.ArrayList<>();\n").append(FIRST_LINE).append('\n');
        for (String line : calls) {
            Matcher call = told(line);
            if (call.group(1) != null) {
                program.append("int " + call.group(1) + " = " + call.group(2) + ";\n");
                program.append("answers.add(String.valueOf(" + call.group(1) + "));\n");
            } else {
                program.append("try { answers.add(String.valueOf(" + call.group(2) + ")); }\n");
                program.append("catch (RuntimeException e) { answers.add(\"throws \" + e.getClass().getSimpleName()); }\n");
            }
        }
        return program.append("return answers;\n}\n}\n").toString();
    }

    @SuppressWarnings("unchecked")
    private static List<String> answersOf(String program) throws Exception {
        Path folder = Files.createTempDirectory("readme");
        Path source = folder.resolve(EXAMPLE + ".java");
        Path compiled = folder.resolve(EXAMPLE + ".class");
        try {
            Files.writeString(source, program);
            int failed = ToolProvider.getSystemJavaCompiler().run(null, null, null, "-d", folder.toString(),
                "-cp", System.getProperty("java.class.path"), source.toString());
            check.is("the example of README.md compiles", 0, failed);
            if (failed != 0) {
                return List.of();
            }
            try (URLClassLoader loader = new URLClassLoader(new URL[] {folder.toUri().toURL()})) {
                return (List<String>) loader.loadClass(EXAMPLE).getMethod("answers").invoke(null);
            }
        } finally {
            Files.deleteIfExists(source);
            Files.deleteIfExists(compiled);
            Files.deleteIfExists(folder);
        }
    }

    private static void namesEveryTest() throws IOException {
        String readme = Files.readString(Path.of("README.md"));
        try (var tests = Files.list(Path.of("src/test/java"))) {
            for (Path test : (Iterable<Path>) tests::iterator) {
                String name = test.getFileName().toString().replace(".java", "");
                if (name.endsWith("Test")) {
                    check.is("README.md tells of " + name, true, readme.contains("`" + name + "`"));
                }
            }
        }
    }
}
