import java.io.IOException;
import java.lang.reflect.InvocationTargetException;
import java.lang.reflect.Method;
import java.lang.reflect.Modifier;
import java.nio.file.Files;
import java.nio.file.Path;
import java.util.Arrays;
import java.util.Set;
import java.util.TreeSet;
import java.util.regex.Matcher;
import java.util.regex.Pattern;
import javax.tools.JavaCompiler;
import javax.tools.ToolProvider;

/**
 * README.md's example: it compiles as it stands there, each of its calls is answered as the comment
 * behind it begins, and it leaves out no call of the face.
 */
public final class ReadmeTest {
    private static final String FIRST_LINE = "ClinicBooks books = new ClinicBooks();";
    private static final Pattern CALL = Pattern.compile(
            "books\\.(\\w+)\\(([-0-9, ]*)\\);\\s*// (void|NONE|-?\\d+|throws \\w+)(: .*)?");

    private static final Set<String> CALLED = new TreeSet<>();
    private static final Set<String> ANSWERED = new TreeSet<>();

    public static void main(String[] args) throws IOException, ReflectiveOperationException {
        String example = example();
        compiles(example);
        ClinicBooks books = new ClinicBooks();
        int lineNumber = 0;
        for (String line : example.split("\n")) {
            lineNumber++;
            if (lineNumber == 1) {
                Check.equal("the first line", FIRST_LINE, line.trim());
            } else if (!line.isBlank() && !line.startsWith("//")) {
                oneCall(books, line.trim());
            }
        }
        nothingIsLeftOut();
        Check.finish();
    }

    private static String example() throws IOException {
        Matcher block = Pattern.compile("(?s)```java\n(.*?)```").matcher(Document.readme());
        Check.equal("README.md has an example", 1, block.find() ? 1 : 0);
        String example = block.group(1);
        Check.equal("README.md has one example", 0, block.find() ? 1 : 0);
        return example;
    }

    private static void compiles(String example) throws IOException {
        Path directory = Files.createTempDirectory("readme");
        Path file = directory.resolve("Example.java");
        Files.writeString(file, "class Example {\n    void use() {\n" + example + "    }\n}\n");
        JavaCompiler compiler = ToolProvider.getSystemJavaCompiler();
        int result = compiler.run(null, System.out, System.out, "--release", "17",
                "-cp", System.getProperty("java.class.path"), "-d", directory.toString(), file.toString());
        Check.equal("the example compiles", 0, result);
        for (String name : new String[] {"Example.class", "Example.java"}) {
            Files.deleteIfExists(directory.resolve(name));
        }
        Files.deleteIfExists(directory);
    }

    private static void oneCall(ClinicBooks books, String line) throws ReflectiveOperationException {
        Matcher call = CALL.matcher(line);
        boolean readable = call.matches();
        Check.equal("a call with its answer stands in '" + line + "'", 1, readable ? 1 : 0);
        if (readable) {
            CALLED.add(call.group(1));
            ANSWERED.add(call.group(3));
            String want = call.group(3).equals("NONE") ? Integer.toString(ClinicBooks.NONE) : call.group(3);
            Check.equal(line, want, answerOf(books, call.group(1), call.group(2)));
        }
    }

    private static String answerOf(ClinicBooks books, String name, String numbers)
            throws ReflectiveOperationException {
        Object[] a = Arrays.stream(numbers.split(",")).map(String::trim).map(Integer::valueOf).toArray();
        Class<?>[] types = new Class<?>[a.length];
        Arrays.fill(types, int.class);
        Method method = ClinicBooks.class.getMethod(name, types);
        try {
            Object answer = method.invoke(books, a);
            return method.getReturnType() == void.class ? "void" : answer.toString();
        } catch (InvocationTargetException e) {
            return "throws " + e.getCause().getClass().getSimpleName();
        }
    }

    private static void nothingIsLeftOut() {
        Set<String> face = new TreeSet<>();
        for (Method m : ClinicBooks.class.getDeclaredMethods()) {
            if (Modifier.isPublic(m.getModifiers())) {
                face.add(m.getName());
            }
        }
        Check.equal("the calls of the example", face.toString(), CALLED.toString());
        for (String answer : new String[] {"NONE", "throws IllegalArgumentException", "throws IllegalStateException"}) {
            Check.equal("an answer of the example is " + answer, 1, ANSWERED.contains(answer) ? 1 : 0);
        }
    }
}
