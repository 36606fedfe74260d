import java.io.IOException;
import java.nio.charset.StandardCharsets;
import java.nio.file.Files;
import java.nio.file.Path;
import java.util.regex.Matcher;
import java.util.regex.Pattern;
import javax.tools.ToolProvider;

/** The example in README.md, compiled and run as it stands there, prints what README.md says that it prints. */
public final class ReadmeTest {
    private static final Due due = new Due("ReadmeTest");

    public static void main(String[] args) throws IOException, InterruptedException {
        String readme = Files.readString(Path.of("README.md"), StandardCharsets.UTF_8);
        Path folder = Files.createTempDirectory("readme");
        Path example = Files.writeString(folder.resolve("Example.java"), block(readme, "java"));
        int compiled = ToolProvider.getSystemJavaCompiler().run(null, null, null, "-d", folder.toString(),
                "src/main/java/StandUpBook.java", example.toString());
        due.is("compiling the example", compiled, 0);
        if (compiled == 0) {
            String printed = printed(folder);
            due.is("the example printed\n" + printed, printed.equals(block(readme, "text")) ? 1 : 0, 1);
        }
        remove(folder);
        due.end();
    }

    /** The first block of this sort, without its fences. */
    private static String block(String readme, String sort) {
        Matcher matcher = Pattern.compile("(?s)\n```" + sort + "\n(.*?)```\n").matcher(readme);
        return matcher.find() ? matcher.group(1) : "";
    }

    private static String printed(Path folder) throws IOException, InterruptedException {
        String java = Path.of(System.getProperty("java.home"), "bin", "java").toString();
        // Watched, so that no process is left behind where a call does not end.
        String path = folder + System.getProperty("path.separator") + System.getProperty("java.class.path");
        Process process = new ProcessBuilder(java, "-cp", path, "Watched", "60", "Example")
                .redirectError(ProcessBuilder.Redirect.INHERIT).start();
        String printed = new String(process.getInputStream().readAllBytes(), StandardCharsets.UTF_8);
        due.is("exit code of the example", process.waitFor(), 0);
        return printed;
    }

    private static void remove(Path folder) throws IOException {
        try (var files = Files.list(folder)) {
            for (Path file : files.toList()) {
                Files.delete(file);
            }
        }
        Files.delete(folder);
    }
}
