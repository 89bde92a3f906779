import java.io.IOException;

/** The boundary cases of all promises, sentence by sentence. */
public final class BoundaryTest {
    public static void main(String[] args) throws IOException {
        Sentences.readDocument();
        BooksBoundary.run();
        SticksBoundary.run();
        JudgementBoundary.run();
        Sentences.everyIfWasTested();
        Check.finish();
    }
}
