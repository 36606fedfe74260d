import java.io.IOException;
import java.lang.reflect.Method;
import java.nio.file.DirectoryStream;
import java.nio.file.Files;
import java.nio.file.Path;

/** Each of promises 1 to 36 has cases of its own among the classes Edges..Test, and each of these runs its cases. */
public final class EveryPromiseTest {
    private static final int PROMISES = 36;
    private static final Due due = new Due("EveryPromiseTest");

    public static void main(String[] args) throws IOException, ClassNotFoundException {
        int[] cases = new int[PROMISES + 1];
        try (DirectoryStream<Path> files = Files.newDirectoryStream(Path.of("src/test/java"), "Edges*Test.java")) {
            for (Path file : files) {
                String name = file.getFileName().toString().replace(".java", "");
                due.is(name + " runs its own cases",
                        Files.readString(file).contains("Cases.run(" + name + ".class)") ? 1 : 0, 1);
                countCases(Class.forName(name), cases);
            }
        }
        for (int promise = 1; promise <= PROMISES; promise++) {
            due.is("promise " + promise + " has cases", cases[promise] > 0 ? 1 : 0, 1);
        }
        due.end();
    }

    private static void countCases(Class<?> test, int[] cases) {
        for (Method method : Cases.of(test)) {
            int promise = Cases.promiseOf(method);
            due.is(method.getName() + " tells a promise", promise >= 1 && promise <= PROMISES ? 1 : 0, 1);
            if (promise <= PROMISES) {
                cases[promise]++;
            }
        }
    }
}
