import java.io.File;
import java.net.URL;
import java.net.URLClassLoader;
import java.nio.file.Files;
import java.nio.file.Path;
import java.util.TreeSet;
import java.util.regex.Matcher;
import java.util.regex.Pattern;
import javax.tools.ToolProvider;

/** What README.md says: the answers of its example, and which tests there are. */
public final class ReadmeTest {
    private static final Check check = new Check();
    private static final Pattern EXAMPLE = Pattern.compile("(?s)```java\n(.*?)```");
    private static final Pattern ANSWERED = Pattern.compile("(?m)^ +(tree\\.(\\w+)\\(.*\\)); +// (-?\\w+)(: .*)?$");
    private static final Pattern CALL = Pattern.compile("(?m)^ +tree\\.");
    private static final Pattern ROW = Pattern.compile("(?m)^\\| `(\\w+)` \\|");

    public static void main(String[] args) throws Exception {
        String readme = Files.readString(Path.of("README.md"));
        theAnswersOfTheExample(readme);
        theTableHasAllTests(readme);
        check.finish();
    }

    /** Called by the example, which is compiled with its answers as arguments. */
    public static void answered(String call, int got, int want) {
        check.due("README.md: " + call, got, want);
    }

    private static void theAnswersOfTheExample(String readme) throws Exception {
        Matcher example = EXAMPLE.matcher(readme);
        check.due("examples in README.md", example.find() ? 1 : 0, 1);
        String source = example.group(1);
        check.due("calls with an answer", count(ANSWERED, source), count(CALL, source));
        Path folder = Files.createTempDirectory("readme");
        Path file = folder.resolve("Example.java");
        Files.writeString(file, compared(source));
        int failed = ToolProvider.getSystemJavaCompiler().run(null, null, null,
            "-cp", System.getProperty("java.class.path"), "-d", folder.toString(), file.toString());
        check.due("javac of the example", failed, 0);
        if (failed == 0) {
            run(folder);
        }
        for (File left : folder.toFile().listFiles()) {
            left.delete();
        }
        Files.delete(folder);
    }

    private static void run(Path folder) throws Exception {
        try (URLClassLoader loader = new URLClassLoader(new URL[] {folder.toUri().toURL()})) {
            loader.loadClass("Example").getMethod("main", String[].class).invoke(null, (Object) new String[0]);
        }
    }

    private static String compared(String source) {
        return ANSWERED.matcher(source).replaceAll(found -> Matcher.quoteReplacement("ReadmeTest.answered(\"" + found.group(2)
            + "\", " + found.group(1) + ", " + (Character.isLetter(found.group(3).charAt(0)) ? "StoneTree." : "")
            + found.group(3) + ");"));
    }

    private static int count(Pattern pattern, String text) {
        return (int) pattern.matcher(text).results().count();
    }

    private static void theTableHasAllTests(String readme) {
        TreeSet<String> told = new TreeSet<>();
        ROW.matcher(readme).results().forEach(row -> told.add(row.group(1)));
        TreeSet<String> there = new TreeSet<>();
        for (String name : new File("src/test/java").list()) {
            if (name.endsWith("Test.java")) {
                there.add(name.replace(".java", ""));
            }
        }
        check.due("the tests that README.md tells", told.toString(), there.toString());
    }
}
