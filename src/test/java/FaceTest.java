import java.io.IOException;
import java.lang.reflect.Constructor;
import java.lang.reflect.Field;
import java.lang.reflect.Method;
import java.lang.reflect.Modifier;
import java.util.ArrayList;
import java.util.Arrays;
import java.util.List;
import java.util.Set;
import java.util.TreeSet;
import java.util.regex.Matcher;
import java.util.regex.Pattern;
import java.util.stream.Collectors;

/** The face: by reflection, and each declaration as it stands in the document, its parameters' names too. */
public final class FaceTest {
    private static final String[] FACE = {
        "int counting(int,int,int) IllegalArgumentException",
        "int coverage(int,int,int) IllegalArgumentException",
        "int dose(int,int,int,int,int) IllegalArgumentException,IllegalStateException",
        "int due(int,int,int) IllegalArgumentException",
        "int entry(int,int,int,int) ",
        "int heard(int,int,int) ",
        "int known(int,int) ",
        "int load(int,int) IllegalArgumentException",
        "int lotList(int,int,int) ",
        "int protectedDay(int,int,int) IllegalArgumentException",
        "int recall(int,int,int,int) IllegalArgumentException,IllegalStateException",
        "int same(int,int,int) IllegalArgumentException,IllegalStateException",
        "int stick(int,int) ",
        "int strike(int,int) IllegalArgumentException,IllegalStateException",
        "int tear(int,int) IllegalArgumentException",
        "int whoIs(int,int) ",
        "int write(int,int) IllegalArgumentException",
        "long sum(int) IllegalArgumentException",
        "void schedule(int,int,int,int,int) IllegalArgumentException,IllegalStateException",
    };

    public static void main(String[] args) throws IOException {
        Class<?> face = ClinicBooks.class;
        Check.equal("public and final", Modifier.PUBLIC | Modifier.FINAL, face.getModifiers());
        Check.equal("class above", "java.lang.Object", face.getSuperclass().getName());
        Check.equal("interfaces", 0, face.getInterfaces().length);
        Constructor<?>[] constructors = face.getDeclaredConstructors();
        Check.equal("constructors", 1, constructors.length);
        Check.equal("constructor", "public ClinicBooks()", constructors[0].toString());
        methods(face);
        fields(face);
        for (Class<?> inside : face.getDeclaredClasses()) {
            Check.equal(inside + " is static", 1, Modifier.isStatic(inside.getModifiers()) ? 1 : 0);
            Check.equal(inside + " is open", 0,
                    inside.getModifiers() & (Modifier.PUBLIC | Modifier.PROTECTED));
        }
        if (Document.isThere()) {
            declarations(documentFace());
        }
        Check.finish();
    }

    private static void methods(Class<?> face) {
        Set<String> open = new TreeSet<>();
        Set<String> names = new TreeSet<>();
        for (Method m : face.getDeclaredMethods()) {
            Check.equal(m + " has few parameters", 1, m.getParameterCount() <= 7 ? 1 : 0);
            if (!Modifier.isPrivate(m.getModifiers())) {
                Check.equal(m + " is public and no more", Modifier.PUBLIC, m.getModifiers());
                open.add(describe(m));
                names.add(m.getName());
            }
        }
        Check.equal("the face", new TreeSet<>(Arrays.asList(FACE)).toString(), open.toString());
        for (Method m : face.getDeclaredMethods()) {
            if (Modifier.isPrivate(m.getModifiers())) {
                Check.equal(m + " has a public one's name", 0, names.contains(m.getName()) ? 1 : 0);
            }
        }
    }

    private static String describe(Method m) {
        return m.getReturnType() + " " + m.getName() + "("
                + Arrays.stream(m.getParameterTypes()).map(Class::toString).collect(Collectors.joining(","))
                + ") "
                + Arrays.stream(m.getExceptionTypes()).map(Class::getSimpleName).sorted()
                        .collect(Collectors.joining(","));
    }

    private static void fields(Class<?> face) {
        for (Field f : face.getDeclaredFields()) {
            if (f.getName().equals("NONE")) {
                Check.equal("NONE", "public static final int ClinicBooks.NONE", f.toString());
            } else {
                Check.equal(f + " is private", 1, Modifier.isPrivate(f.getModifiers()) ? 1 : 0);
            }
            Check.equal(f + " is final", 1, Modifier.isFinal(f.getModifiers()) ? 1 : 0);
        }
    }

    /** The members between the braces of the document's public face, without their semicolons. */
    private static List<String> documentFace() throws IOException {
        Matcher block = Pattern.compile("(?s)```java\\s+public final class ClinicBooks \\{(.*?)\\}").matcher(
                Document.text());
        List<String> members = new ArrayList<>();
        if (block.find()) {
            for (String member : block.group(1).split(";")) {
                if (!member.isBlank()) {
                    members.add(oneLine(member));
                }
            }
        }
        return members;
    }

    private static String oneLine(String text) {
        return text.replaceAll("\\s+", " ").trim();
    }

    private static void declarations(List<String> members) throws IOException {
        String source = oneLine(Document.source());
        Check.equal("members of the document's face", FACE.length + 2, members.size());
        for (String member : members) {
            String end = member.contains("(") ? " {" : ";";
            Check.equal("the source declares '" + member + "'", 1, source.contains(member + end) ? 1 : 0);
        }
        int open = source.split("\\bpublic\\b", -1).length - 1;
        Check.equal("what is public, the class among it", members.size() + 1, open);
        Matcher promise = Pattern.compile("(?m)^`([^`]*\\)[^`]*)`: ").matcher(Document.text());
        int promises = 0;
        while (promise.find()) {
            promises++;
            Check.equal("the face has '" + promise.group(1) + "'", 1,
                    members.contains("public " + promise.group(1)) ? 1 : 0);
        }
        Check.equal("declarations of the promises", 20, promises);
    }
}
