import java.io.ByteArrayOutputStream;
import java.io.IOException;
import java.io.PrintStream;
import java.net.URL;
import java.net.URLClassLoader;
import java.nio.charset.StandardCharsets;
import java.nio.file.Files;
import java.nio.file.Path;
import java.util.ArrayList;
import java.util.List;
import java.util.regex.Matcher;
import java.util.regex.Pattern;
import javax.tools.ToolProvider;

/** The example of README.md is a program; each of its lines answers what stands behind it. */
public final class ReadmeTest {
    private static final Pattern EXAMPLE = Pattern.compile("(?s)```java\n(.*?)```");
    private static final Pattern CALL = Pattern.compile("System\\.out\\.println\\((sheet\\..*)\\); *(?:// (-?\\d+):)?");

    public static void main(String[] args) throws Exception {
        Due.sentence("README.md: a short example whose answers are the ones that the class gives");
        Matcher example = EXAMPLE.matcher(Files.readString(Path.of("README.md")));
        boolean found = example.find();
        Due.due("README.md has an example", found ? 1 : 0, 1);
        if (found) {
            check(example.group(1));
        }
        Due.end();
    }

    private static void check(String program) throws Exception {
        List<String> calls = new ArrayList<>();
        List<String> told = new ArrayList<>();
        Matcher call = CALL.matcher(program);
        while (call.find()) {
            calls.add(call.group(1));
            told.add(String.valueOf(call.group(2)));
        }
        String[] answers = answersOf(program).split("\\R");
        Due.due("how many lines answer", answers.length, told.size());
        for (int i = 0; i < Math.min(answers.length, told.size()); i++) {
            Due.due(calls.get(i), told.get(i), answers[i]);
        }
    }

    private static String answersOf(String program) throws Exception {
        Path dir = Files.createTempDirectory("readme");
        Path source = dir.resolve("Example.java");
        Files.writeString(source, program);
        int failed = ToolProvider.getSystemJavaCompiler().run(null, null, null, "-proc:none",
            "-cp", System.getProperty("java.class.path"), "-d", dir.toString(), source.toString());
        Due.due("the example compiles", failed, 0);
        String answers = failed == 0 ? printedBy(dir) : "";
        drop(dir);
        return answers;
    }

    private static String printedBy(Path dir) throws Exception {
        PrintStream before = System.out;
        ByteArrayOutputStream printed = new ByteArrayOutputStream();
        try (URLClassLoader loader = new URLClassLoader(new URL[] {dir.toUri().toURL()})) {
            System.setOut(new PrintStream(printed, true, StandardCharsets.US_ASCII));
            loader.loadClass("Example").getMethod("main", String[].class).invoke(null, (Object) new String[0]);
        } finally {
            System.setOut(before);
        }
        return printed.toString(StandardCharsets.US_ASCII);
    }

    private static void drop(Path dir) throws IOException {
        Files.deleteIfExists(dir.resolve("Example.java"));
        Files.deleteIfExists(dir.resolve("Example.class"));
        Files.deleteIfExists(dir);
    }
}
