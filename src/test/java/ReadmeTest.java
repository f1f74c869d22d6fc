import java.io.IOException;
import java.lang.reflect.Method;
import java.lang.reflect.Modifier;
import java.net.URL;
import java.net.URLClassLoader;
import java.nio.file.Files;
import java.nio.file.Path;
import java.util.Arrays;
import java.util.stream.Stream;
import javax.tools.ToolProvider;

/** README.md holds beside the class: its example runs, and it names each call and each test. */
public final class ReadmeTest {
    private static final Path README = Path.of("README.md");
    private static final Path TESTS = Path.of("src/test/java");
    private static final String BLOCK_BEGINS = "```java\n";
    private static final String BLOCK_ENDS = "```";

    private static final Checks checks = new Checks();

    public static void main(String[] args) throws IOException, ReflectiveOperationException {
        String readme = Files.readString(README);
        int[] answered = exampleRun(readme);
        checks.isTrue("2 ways, way 567, x 23 and y 17, not " + Arrays.toString(answered),
            Arrays.equals(answered, new int[] {2, 567, 23, 17}));
        for (Method m : NumberCircuits.class.getDeclaredMethods()) {
            if (Modifier.isPublic(m.getModifiers())) {
                checks.isTrue("README.md names " + m.getName(), readme.contains("| `" + m.getName() + "("));
            }
        }
        checks.isTrue("README.md tells of 512 calls", readme.contains("512 calls"));
        try (Stream<Path> files = Files.list(TESTS)) {
            files.forEach(file -> named(readme, file.getFileName().toString().replace(".java", "")));
        }
        checks.finish();
    }

    private static void named(String readme, String test) {
        checks.isTrue("README.md names " + test, readme.contains("`" + test + "`"));
    }

    /** The very text of the example is compiled, as a copy of it here could be another. */
    private static int[] exampleRun(String readme) throws IOException, ReflectiveOperationException {
        int from = readme.indexOf(BLOCK_BEGINS) + BLOCK_BEGINS.length();
        String block = readme.substring(from, readme.indexOf(BLOCK_ENDS, from));
        Path folder = Files.createTempDirectory("readme");
        Path source = folder.resolve("Example.java");
        Files.writeString(source, "public class Example {\npublic static int[] run() {\n" + block
            + "return new int[] {ways, way, x, y};\n}\n}\n");
        String path = System.getProperty("java.class.path");
        int compiled = ToolProvider.getSystemJavaCompiler().run(null, null, null, "-cp", path, source.toString());
        checks.equal("the example compiles, which", compiled, 0);
        try (URLClassLoader loader = new URLClassLoader(new URL[] {folder.toUri().toURL()})) {
            return (int[]) loader.loadClass("Example").getMethod("run").invoke(null);
        } finally {
            removed(folder);
        }
    }

    private static void removed(Path folder) throws IOException {
        Files.deleteIfExists(folder.resolve("Example.java"));
        Files.deleteIfExists(folder.resolve("Example.class"));
        Files.delete(folder);
    }
}
