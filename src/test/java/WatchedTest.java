import java.io.IOException;
import java.nio.charset.StandardCharsets;
import java.nio.file.Path;
import java.util.ArrayList;
import java.util.List;

/** A test that never ends is ended and named, one that fails fails, one that passes passes. */
public final class WatchedTest {
    private static final Due due = new Due("WatchedTest");

    public static void main(String[] args) throws IOException, InterruptedException {
        String still = watched("1", "WatchedTest$NeverEnds", Watched.STOOD_STILL);
        due.is("the test is named: " + still, still.startsWith("WatchedTest$NeverEnds did not come") ? 1 : 0, 1);
        due.is("the call is named: " + still, still.contains("WatchedTest$NeverEnds.standStill") ? 1 : 0, 1);
        watched("60", "WatchedTest$Fails", 1);
        watched("60", "WatchedTest$Throws", 1);
        watched("60", "WatchedTest$Passes", 0);
        due.end();
    }

    /** What a watched test prints; it must end with this exit code. */
    private static String watched(String seconds, String test, int exitCode) throws IOException, InterruptedException {
        List<String> command = new ArrayList<>();
        command.add(Path.of(System.getProperty("java.home"), "bin", "java").toString());
        command.add("-cp");
        command.add(System.getProperty("java.class.path"));
        command.addAll(List.of("Watched", seconds, test));
        // What java itself says there is of no interest: that it was told options, or what was thrown.
        Process process = new ProcessBuilder(command).redirectError(ProcessBuilder.Redirect.DISCARD).start();
        String printed = new String(process.getInputStream().readAllBytes(), StandardCharsets.UTF_8);
        due.is("exit code of " + test + ", that printed " + printed, process.waitFor(), exitCode);
        return printed;
    }

    public static final class NeverEnds {
        public static void main(String[] args) {
            standStill(1);
        }

        private static void standStill(int by) {
            for (int i = 0; i >= 0; i = (i + by) % 7) {
                if (by == 0) {
                    return;
                }
            }
        }
    }

    public static final class Fails {
        public static void main(String[] args) {
            System.exit(1);
        }
    }

    public static final class Throws {
        public static void main(String[] args) {
            throw new IllegalStateException("as a broken test would");
        }
    }

    public static final class Passes {
        public static void main(String[] args) {
            System.out.println("passed");
        }
    }
}
