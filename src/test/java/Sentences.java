import java.io.IOException;
import java.nio.file.Files;
import java.nio.file.Path;
import java.util.Map;
import java.util.TreeMap;

/**
 * Tests that stand for words of the document: each is run under the words that it holds to. At the
 * end every word 'if' of the twenty promises must stand in words that a test was run for.
 */
final class Sentences {
    static final int TERMS = 0;

    private static final int PROMISES = 20;
    private static final Path DOCUMENT = Path.of("..", "shared", "DOC.md");

    /** The document's text under each promise, without the words that were tested so far. */
    private static final Map<Integer, String> UNTESTED = new TreeMap<>();
    private static final Map<Integer, String> WHOLE = new TreeMap<>();

    private Sentences() {
    }

    static void readDocument() throws IOException {
        if (!Files.exists(DOCUMENT)) {
            System.out.println(DOCUMENT + " is not there: the tests run, their words are not looked up");
            return;
        }
        String[] parts = Files.readString(DOCUMENT).split("\n## (?=Promise )");
        Check.equal("promises of the document", PROMISES, parts.length - 1);
        for (int n = 0; n < parts.length; n++) {
            String text = parts[n].replace("```text", " ").replace("```", " ").replaceAll("\\s+", " ");
            WHOLE.put(n, text.split("## Not promised")[0]);
        }
        UNTESTED.putAll(WHOLE);
    }

    static void test(int promise, String words, Runnable body) {
        if (!WHOLE.isEmpty()) {
            Check.equal("promise " + promise + " says '" + words + "'", 1,
                    WHOLE.get(promise).contains(words) ? 1 : 0);
            UNTESTED.put(promise, UNTESTED.get(promise).replace(words, ""));
        }
        boolean wrongBefore = Check.anyWrong();
        body.run();
        if (Check.anyWrong() && !wrongBefore) {
            System.out.println("the first that failed: promise " + promise + ", '" + words + "'");
        }
    }

    static void everyIfWasTested() {
        for (int n = 1; n <= PROMISES && !WHOLE.isEmpty(); n++) {
            String rest = UNTESTED.get(n);
            Check.equal("promise " + n + " without its tested words, '" + rest + "', has an if", 0,
                    rest.contains(" if ") || rest.startsWith("if ") ? 1 : 0);
        }
    }
}
