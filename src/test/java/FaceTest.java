import java.io.IOException;
import java.lang.reflect.Constructor;
import java.lang.reflect.Field;
import java.lang.reflect.Method;
import java.lang.reflect.Modifier;
import java.nio.charset.StandardCharsets;
import java.nio.file.Files;
import java.nio.file.Path;
import java.util.Set;
import java.util.TreeSet;
import java.util.regex.Matcher;
import java.util.regex.Pattern;

/** The public face is the document's, no more and no less; and the file keeps to the words LANGUAGE.md leaves. */
public final class FaceTest {
    private static final String[] METHODS = {
        "int book(int)", "int piece(int,int,int,int,int)", "int type(int)", "int clear()", "int read()",
        "int opens(int)", "int pulls(int,int)", "int tears(int)", "int undo()", "int of(int,int)",
        "int gives(int,int,int)", "int height(int,int)", "int seen(int)", "int first(int)", "int best(int)",
        "int out(int)", "int tour(int,int)", "int place(int,int,int)", "int lasts()", "int turns(int,int)",
        "int note(int,int,int,int,int)", "int stood(int,int)", "int forget(int)", "int is(int)", "int look(int)",
        "int where(int,int)", "int seats(int)", "int sticks(int,int)", "int readers(int,int)", "long part(int)",
        "int image(int)", "int from(int)", "int status(int)", "int count(int)", "long digest()"};
    private static final String FORBIDDEN =
            "\\b(throw|throws|try|catch|finally|synchronized|assert|import|package|lambda|volatile|transient|native"
            + "|protected|hashCode|toString|\\w+Exact|Object|HashMap|Exception|Thread|Random)\\b|->|::";
    private static final Due due = new Due("FaceTest");

    public static void main(String[] args) throws IOException {
        constants();
        members();
        source();
        due.end();
    }

    private static void constants() {
        due.is("NONE", StandUpBook.NONE, -1);
        due.is("BAD", StandUpBook.BAD, -2);
        due.is("NO", StandUpBook.NO, -3);
        due.is("FULL", StandUpBook.FULL, -4);
    }

    private static void members() {
        Set<String> found = new TreeSet<>();
        Set<String> hidden = new TreeSet<>();
        for (Method method : StandUpBook.class.getDeclaredMethods()) {
            if (Modifier.isPrivate(method.getModifiers())) {
                hidden.add(method.getName());
            } else {
                found.add(signature(method));
            }
        }
        Set<String> wanted = new TreeSet<>(Set.of(METHODS));
        due.is("methods " + found + " for " + wanted, found.equals(wanted) ? 1 : 0, 1);
        for (Method method : StandUpBook.class.getMethods()) {
            due.is("private " + method.getName(), hidden.contains(method.getName()) ? 1 : 0, 0);
        }
        for (Field field : StandUpBook.class.getDeclaredFields()) {
            boolean told = Set.of("NONE", "BAD", "NO", "FULL").contains(field.getName());
            due.is("public " + field.getName(), Modifier.isPublic(field.getModifiers()) ? 1 : 0, told ? 1 : 0);
            due.is("private " + field.getName(), Modifier.isPrivate(field.getModifiers()) ? 1 : 0, told ? 0 : 1);
        }
        Constructor<?>[] constructors = StandUpBook.class.getDeclaredConstructors();
        due.is("constructors", constructors.length, 1);
        due.is("its parameters", constructors[0].getParameterCount(), 0);
        due.is("final", Modifier.isFinal(StandUpBook.class.getModifiers()) ? 1 : 0, 1);
    }

    private static String signature(Method method) {
        StringBuilder text = new StringBuilder();
        for (Class<?> parameter : method.getParameterTypes()) {
            text.append(text.length() == 0 ? "" : ",").append(parameter.getName());
        }
        return method.getReturnType().getName() + " " + method.getName() + "(" + text + ")";
    }

    private static void source() throws IOException {
        String source = Files.readString(Path.of("src/main/java/StandUpBook.java"), StandardCharsets.US_ASCII);
        String code = source.replaceAll("(?s)/\\*.*?\\*/", " ").replaceAll("//[^\n]*", " ");
        Matcher matcher = Pattern.compile(FORBIDDEN).matcher(code);
        while (matcher.find()) {
            due.is("the word " + matcher.group(), 1, 0);
        }
    }
}
