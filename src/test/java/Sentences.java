import java.io.IOException;
import java.util.BitSet;
import java.util.Map;
import java.util.TreeMap;

/**
 * Tests that stand for words of the document: each is run under the words that it holds to. At the
 * end every word of the document must stand in words that a test was run for, but for its headings
 * and the declarations, which FaceTest compares.
 */
final class Sentences {
    static final int TERMS = 0;

    private static final int PROMISES = 20;

    /** The document's text under each promise, and which of its characters were tested so far. */
    private static final Map<Integer, String> WHOLE = new TreeMap<>();
    private static final Map<Integer, BitSet> TESTED = new TreeMap<>();

    private Sentences() {
    }

    static void readDocument() throws IOException {
        if (!Document.isThere()) {
            System.out.println("the document is not there: the tests run, their words are not looked up");
            return;
        }
        String[] parts = Document.text().split("\n## Not promised")[0].split("\n## (?=Promise )");
        Check.equal("promises of the document", PROMISES, parts.length - 1);
        for (int n = 0; n < parts.length; n++) {
            WHOLE.put(n, wordsOf(parts[n]));
            TESTED.put(n, new BitSet());
            TESTED.get(n).set(0, endOfDeclaration(WHOLE.get(n)));
        }
    }

    private static String wordsOf(String part) {
        return part.replaceAll("(?s)```java.*?```", " ")
                .replaceAll("```(text)?", " ")
                .replaceAll("(?m)^(#+ |Promise \\d).*$", " ")
                .replaceAll("\\s+", " ").trim();
    }

    /** A promise begins with the declaration of its call, between two backticks. */
    private static int endOfDeclaration(String words) {
        return words.startsWith("`") ? words.indexOf('`', 1) + 1 : 0;
    }

    static void test(int promise, String words, Runnable body) {
        if (!WHOLE.isEmpty()) {
            mark(promise, words);
        }
        boolean wrongBefore = Check.anyWrong();
        body.run();
        if (Check.anyWrong() && !wrongBefore) {
            System.out.println("the first that failed: promise " + promise + ", '" + words + "'");
        }
    }

    private static void mark(int promise, String words) {
        String whole = WHOLE.get(promise);
        int at = whole.indexOf(words);
        Check.equal("promise " + promise + " says '" + words + "'", 1, at >= 0 ? 1 : 0);
        while (at >= 0) {
            TESTED.get(promise).set(at, at + words.length());
            at = whole.indexOf(words, at + 1);
        }
    }

    static void everyWordWasTested() {
        for (int n : WHOLE.keySet()) {
            Check.equal("the untested words of promise " + n, "", untested(n));
        }
    }

    /** What joins tested words, 'and' or 'or' alone, says nothing by itself. */
    private static String untested(int promise) {
        StringBuilder rest = new StringBuilder(WHOLE.get(promise));
        TESTED.get(promise).stream().forEach(i -> rest.setCharAt(i, ' '));
        return rest.toString().replaceAll("\\b(and|or)\\b", " ").replaceAll("[^A-Za-z0-9]+", " ").trim();
    }
}
