import java.io.IOException;
import java.lang.reflect.Field;
import java.lang.reflect.Method;
import java.lang.reflect.Modifier;
import java.util.Set;
import java.util.regex.Matcher;
import java.util.regex.Pattern;

/** The rules of LANGUAGE.md that can be seen in the program's text or by reflection. */
public final class LanguageTest {
    /** The language allows try and catch; the class needs none, so that it can catch nothing of the machine's. */
    private static final Set<String> FORBIDDEN = Set.of("package", "import", "try", "catch", "finally",
            "synchronized", "assert", "protected", "volatile", "transient", "native", "System", "Thread");
    private static final int MOST_CLASSES = 12;
    private static final int MOST_FIELDS = 20;
    private static final int MOST_PARAMETERS = 7;

    public static void main(String[] args) throws IOException {
        String source = Document.source();
        String code = withoutComments(source);
        words(code);
        exceptions(code);
        Class<?>[] inside = ClinicBooks.class.getDeclaredClasses();
        Check.equal("few classes", 1, inside.length + 1 <= MOST_CLASSES ? 1 : 0);
        shape(ClinicBooks.class);
        for (Class<?> each : inside) {
            shape(each);
        }
        Check.equal("characters above 255", 0, source.chars().filter(c -> c > 255).count());
        Check.finish();
    }

    private static String withoutComments(String source) {
        return source.replaceAll("(?s)/\\*.*?\\*/", " ").replaceAll("//[^\n]*", " ");
    }

    private static void words(String code) {
        String bare = code.replaceAll("\"[^\"\n]*\"", "\"\"");
        Matcher word = Pattern.compile("[A-Za-z]\\w*").matcher(bare);
        while (word.find()) {
            Check.equal("the word " + word.group(), 0, FORBIDDEN.contains(word.group())
                    || word.group().endsWith("Exact") ? 1 : 0);
        }
        Check.equal("lambdas", 0, bare.contains("->") ? 1 : 0);
        Check.equal("method references", 0, bare.contains("::") ? 1 : 0);
        Check.equal("texts joined by +", 0, Pattern.compile("\"\\s*\\+|\\+\\s*\"").matcher(bare).find() ? 1 : 0);
    }

    private static void exceptions(String code) {
        Pattern allowed = Pattern.compile(
                "throw new (IllegalArgumentException|IllegalStateException)\\(\"[^\"\n]*\"\\);");
        Matcher thrown = Pattern.compile("\\bthrow\\b[^;]*;").matcher(code);
        int found = 0;
        while (thrown.find()) {
            found++;
            Check.equal(thrown.group() + " is allowed", 1, allowed.matcher(thrown.group()).matches() ? 1 : 0);
        }
        Check.equal("there are some", 1, found > 0 ? 1 : 0);
    }

    private static void shape(Class<?> each) {
        int fields = 0;
        for (Field f : each.getDeclaredFields()) {
            boolean isStatic = Modifier.isStatic(f.getModifiers());
            fields += isStatic ? 0 : 1;
            Check.equal(f + " is a changing static", 0,
                    isStatic && !Modifier.isFinal(f.getModifiers()) ? 1 : 0);
        }
        Check.equal(each + " has few fields", 1, fields <= MOST_FIELDS ? 1 : 0);
        for (Method m : each.getDeclaredMethods()) {
            Check.equal(m + " has few parameters", 1, m.getParameterCount() <= MOST_PARAMETERS ? 1 : 0);
        }
    }
}
