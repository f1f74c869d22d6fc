import java.io.IOException;
import java.lang.reflect.Method;
import java.nio.file.Files;
import java.nio.file.Path;
import java.util.List;
import java.util.Set;

/** What can be seen of ../shared/LANGUAGE.md in the program's text and in what javac makes of it. */
public final class LanguageTest {
    private static final Path PROGRAM = Path.of("src/main/java/NumberCircuits.java");
    private static final int LONGEST_METHOD = 60;
    private static final int MOST_PARAMETERS = 7;

    /** Of what rules 4 and 6 allow, only what the program needs: more is added here when it is used. */
    private static final Set<String> LIBRARY = Set.of(
        "java/lang/Object.<init>()V",
        "java/lang/IllegalArgumentException.<init>(Ljava/lang/String;)V",
        "java/util/NoSuchElementException.<init>(Ljava/lang/String;)V");
    private static final List<String> REFUSED_WORDS = List.of("finally", "synchronized", "assert");

    private static final Checks checks = new Checks();

    public static void main(String[] args) throws IOException {
        library();
        List<String> lines = Files.readAllLines(PROGRAM);
        words(lines);
        methods(lines);
        checks.finish();
    }

    /** A lambda, a method reference or texts joined by + (rules 2 and 10) end the reading of the pool. */
    private static void library() throws IOException {
        for (String used : ConstantPool.of(NumberCircuits.class).used()) {
            boolean own = used.startsWith("NumberCircuits.");
            checks.isTrue("rules 4, 6 and 13 for " + used, own || LIBRARY.contains(used));
        }
    }

    private static void words(List<String> lines) {
        for (String line : lines) {
            String code = line.strip();
            boolean comment = code.startsWith("/*") || code.startsWith("*") || code.startsWith("//");
            for (String word : REFUSED_WORDS) {
                checks.isTrue("rule 6 for " + code, comment || !code.contains(word));
            }
        }
    }

    /** A method begins and ends four blanks in, as all of them are of the one class. */
    private static void methods(List<String> lines) {
        for (Method m : NumberCircuits.class.getDeclaredMethods()) {
            checks.isTrue("rule 11 for the parameters of " + m, m.getParameterCount() <= MOST_PARAMETERS);
        }
        int begun = 0;
        for (int at = 0; at < lines.size(); at++) {
            String line = lines.get(at);
            if (line.startsWith("    p") && line.endsWith("{")) {
                begun = at;
            }
            if (line.equals("    }")) {
                checks.isTrue("rule 11 for the length of " + lines.get(begun), at - begun < LONGEST_METHOD);
            }
        }
    }
}
