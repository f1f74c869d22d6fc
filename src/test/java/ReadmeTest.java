import java.io.IOException;
import java.lang.reflect.Method;
import java.lang.reflect.Modifier;
import java.net.URL;
import java.net.URLClassLoader;
import java.nio.file.Files;
import java.nio.file.Path;
import java.util.ArrayList;
import java.util.List;
import java.util.regex.Matcher;
import java.util.regex.Pattern;
import java.util.stream.Stream;
import javax.tools.ToolProvider;

/** README.md holds beside the class: its example runs, and it names each call and each test. */
public final class ReadmeTest {
    private static final Path README = Path.of("README.md");
    private static final Path TESTS = Path.of("src/test/java");
    private static final String BLOCK_BEGINS = "```java\n";
    private static final String BLOCK_ENDS = "```";
    /** A line that keeps an answer: its name, and the last number of the comment, which tells what it is. */
    private static final Pattern ANSWER = Pattern.compile("^int (\\w+) = .*//.*?(\\d+)[^\\d\n]*$", Pattern.MULTILINE);

    private static final Checks checks = new Checks();

    public static void main(String[] args) throws IOException, ReflectiveOperationException {
        String readme = Files.readString(README);
        example(readme);
        for (Method m : NumberCircuits.class.getDeclaredMethods()) {
            if (Modifier.isPublic(m.getModifiers())) {
                checks.isTrue("README.md names " + m.getName(), readme.contains("| `" + m.getName() + "("));
            }
        }
        checks.isTrue("README.md tells of 512 calls", readme.contains("512 calls"));
        try (Stream<Path> files = Files.list(TESTS)) {
            files.forEach(file -> named(readme, file.getFileName().toString().replace(".java", "")));
        }
        checks.finish();
    }

    private static void named(String readme, String test) {
        checks.isTrue("README.md names " + test, readme.contains("`" + test + "`"));
    }

    private static void example(String readme) throws IOException, ReflectiveOperationException {
        int from = readme.indexOf(BLOCK_BEGINS) + BLOCK_BEGINS.length();
        String block = readme.substring(from, readme.indexOf(BLOCK_ENDS, from));
        List<String> names = new ArrayList<>();
        List<Integer> told = new ArrayList<>();
        Matcher answers = ANSWER.matcher(block);
        while (answers.find()) {
            names.add(answers.group(1));
            told.add(Integer.valueOf(answers.group(2)));
        }
        int[] answered = run(block + "return new int[] {" + String.join(", ", names) + "};\n");
        checks.isTrue("the example has answers", answered.length > 0);
        for (int i = 0; i < answered.length; i++) {
            checks.equal("the example's " + names.get(i), answered[i], told.get(i));
        }
    }

    /** The very text of the example is compiled, as a copy of it here could be another. */
    private static int[] run(String body) throws IOException, ReflectiveOperationException {
        Path folder = Files.createTempDirectory("readme");
        Path source = folder.resolve("Example.java");
        Files.writeString(source, "public class Example {\npublic static int[] run() {\n" + body + "}\n}\n");
        String path = System.getProperty("java.class.path");
        int compiled = ToolProvider.getSystemJavaCompiler().run(null, null, null, "-cp", path, source.toString());
        checks.equal("the compiler of the example", compiled, 0);
        try (URLClassLoader loader = new URLClassLoader(new URL[] {folder.toUri().toURL()})) {
            return (int[]) loader.loadClass("Example").getMethod("run").invoke(null);
        } finally {
            removed(folder);
        }
    }

    private static void removed(Path folder) throws IOException {
        Files.deleteIfExists(folder.resolve("Example.java"));
        Files.deleteIfExists(folder.resolve("Example.class"));
        Files.delete(folder);
    }
}
