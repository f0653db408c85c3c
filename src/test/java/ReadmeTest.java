import java.io.IOException;
import java.lang.reflect.Method;
import java.lang.reflect.Modifier;
import java.net.URL;
import java.net.URLClassLoader;
import java.nio.file.Files;
import java.nio.file.Path;
import java.util.ArrayList;
import java.util.List;
import java.util.regex.Matcher;
import java.util.regex.Pattern;
import java.util.stream.Stream;
import javax.tools.ToolProvider;

/** The example of README.md is true to the program, and README.md names every call and test. */
public final class ReadmeTest {
    private static final Pattern ANSWERED =
            Pattern.compile("(?:int (\\w+) = )?(x\\.\\w+\\(.*\\)); *// (-?\\w+)(?:,.*)?");

    public static void main(String[] args) throws Exception {
        String readme = Files.readString(Path.of("README.md"));
        List<String> example = exampleOf(readme);
        List<String> due = new ArrayList<>();
        List<String> got = answersOf(example, due);
        Due.yes("the example tells answers", due.size() > 0);
        Due.same("answers of the example", got.size(), due.size());
        for (int i = 0; i < Math.min(got.size(), due.size()); i++) {
            Due.text("the example of README.md", got.get(i), due.get(i));
        }
        for (Method call : MailVerdicts.class.getDeclaredMethods()) {
            if (Modifier.isPublic(call.getModifiers())) {
                Due.yes("README.md tells of " + call.getName(), readme.contains("| `" + call.getName() + "("));
            }
        }
        for (String test : tests()) {
            Due.yes("README.md names " + test, readme.contains("`" + test + "`"));
        }
        Due.end();
    }

    private static List<String> exampleOf(String readme) {
        String opening = "```java\n";
        int start = readme.indexOf(opening) + opening.length();
        return readme.substring(start, readme.indexOf("```", start)).lines().toList();
    }

    private static List<String> tests() throws IOException {
        try (Stream<Path> files = Files.list(Path.of("src/test/java"))) {
            return files.map(file -> file.getFileName().toString())
                    .filter(name -> name.endsWith("Test.java"))
                    .map(name -> name.replace(".java", ""))
                    .toList();
        }
    }

    /** Runs the example, and adds to due what stands behind its calls. */
    private static List<String> answersOf(List<String> example, List<String> due) throws Exception {
        StringBuilder source = new StringBuilder("public final class Example {\n");
        source.append("public static java.util.List<String> answers() {\n");
        source.append("java.util.List<String> got = new java.util.ArrayList<>();\n");
        for (String line : example) {
            Matcher answered = ANSWERED.matcher(line);
            if (!answered.matches()) {
                Due.no("a comment that tells no answer: " + line, line.contains("//"));
                source.append(line).append('\n');
                continue;
            }
            String name = answered.group(1);
            String call = answered.group(2);
            source.append(name == null ? "" : "int " + name + " = " + call + ";\n");
            String told = call.replace("\"", "\\\"") + " ";
            source.append("got.add(\"" + told + "\" + " + (name == null ? call : name) + ");\n");
            due.add(call + " " + answered.group(3));
        }
        source.append("return got;\n}\n}\n");
        return run(source.toString());
    }

    private static List<String> run(String source) throws Exception {
        Path room = Files.createTempDirectory("readme");
        Path file = room.resolve("Example.java");
        Files.writeString(file, source);
        String path = System.getProperty("java.class.path");
        int failed = ToolProvider.getSystemJavaCompiler()
                .run(null, null, null, "-cp", path, "-d", room.toString(), file.toString());
        Due.same("compiling the example", failed, 0);
        List<String> got = new ArrayList<>();
        if (failed == 0) {
            try (URLClassLoader loader = new URLClassLoader(new URL[] {room.toUri().toURL()})) {
                Method answers = loader.loadClass("Example").getMethod("answers");
                for (Object answer : (List<?>) answers.invoke(null)) {
                    got.add((String) answer);
                }
            }
        }
        for (String left : List.of("Example.class", "Example.java", "")) {
            Files.deleteIfExists(room.resolve(left));
        }
        return got;
    }
}
