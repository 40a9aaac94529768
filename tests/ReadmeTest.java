import java.io.ByteArrayOutputStream;
import java.io.IOException;
import java.io.PrintStream;
import java.nio.charset.StandardCharsets;
import java.nio.file.Files;
import java.nio.file.Path;
import java.util.ArrayList;
import java.util.List;
import java.util.regex.Matcher;
import java.util.regex.Pattern;
import javax.tools.JavaCompiler;
import javax.tools.ToolProvider;

/** README.md: its example compiles as it is written, and prints what it says behind each line that prints. */
public final class ReadmeTest {
    private static final Pattern BLOCK = Pattern.compile("```java\n(.*?)```", Pattern.DOTALL);
    private static final Pattern PRINTS = Pattern.compile("(?m)^ *(System\\.out\\.println\\(.*\\);) *(?:// (.*))?$");

    public static void main(String[] args) throws IOException {
        String text = Files.readString(Path.of("README.md"), StandardCharsets.UTF_8);
        Matcher block = BLOCK.matcher(text);
        Check.due("an example", true, block::find);
        String source = block.group(1);
        Check.due("one example", false, block::find);
        Path home = Files.createDirectories(Path.of("build", "readme"));
        Check.due("it compiles", 0, () -> compiled(source, home));
        compare(source, printed(home));
        Check.end("ReadmeTest");
    }

    private static int compiled(String source, Path home) {
        try {
            Path file = home.resolve("Example.java");
            Files.writeString(file, source);
            JavaCompiler compiler = ToolProvider.getSystemJavaCompiler();
            return compiler.run(null, null, null, "-d", home.toString(), file.toString(),
                "src/main/java/LetterForms.java");
        } catch (IOException e) {
            throw new IllegalStateException(e);
        }
    }

    /** What the example prints, in a machine of its own, without the classes of the tests. */
    private static List<String> printed(Path home) throws IOException {
        String java = Path.of(System.getProperty("java.home"), "bin", "java").toString();
        Process run = new ProcessBuilder(java, "-cp", home.toString(), "Example").redirectErrorStream(true).start();
        ByteArrayOutputStream all = new ByteArrayOutputStream();
        run.getInputStream().transferTo(new PrintStream(all));
        Check.due("it ends well", 0, () -> ended(run));
        return List.of(all.toString(StandardCharsets.UTF_8).split("\\R"));
    }

    private static int ended(Process run) {
        try {
            return run.waitFor();
        } catch (InterruptedException e) {
            throw new IllegalStateException(e);
        }
    }

    /** The lines that print stand in the order in which they are come to, each once. */
    private static void compare(String source, List<String> printed) {
        List<String> calls = new ArrayList<>();
        List<String> told = new ArrayList<>();
        Matcher m = PRINTS.matcher(source);
        while (m.find()) {
            calls.add(m.group(1));
            told.add(m.group(2));
        }
        Check.due("some lines print", true, () -> calls.size() > 20);
        Check.due("as many lines as are printed", calls.size(), printed::size);
        for (int n = 0; n < calls.size() && n < printed.size(); n++) {
            int line = n;
            Check.due(calls.get(n), told.get(n), () -> printed.get(line));
        }
    }
}
