import java.io.IOException;

/** The whole document from its first line, sentence by sentence: ordinary use, then the boundary cases. */
public final class DocumentTest {
    public static void main(String[] args) throws IOException {
        Sentences.readDocument();
        TermsSentences.run();
        PromiseSentences.run();
        BooksBoundary.run();
        SticksBoundary.run();
        JudgementBoundary.run();
        Sentences.everyWordWasTested();
        Check.finish();
    }
}
