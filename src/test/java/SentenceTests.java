import java.io.IOException;

/** Each sentence of the document by itself. */
public final class SentenceTests {
    public static void main(String[] arguments) throws IOException {
        Checks checks = new Checks();
        Sentences sentences = new Sentences(checks);
        sentences.run(new MatrixTerms(checks));
        sentences.run(new ScalingTerms(checks));
        sentences.run(new TextTerms(checks));
        sentences.run(new HistoryTerms(checks));
        sentences.run(new ErrorTerms(checks));
        sentences.run(new ChangePromises(checks));
        sentences.run(new TextPromises(checks));
        sentences.run(new PermanentPromises(checks));
        sentences.run(new DiagonalPromises(checks));
        sentences.run(new ScalingPromises(checks));
        sentences.lookForUntestedWords();
        checks.end("SentenceTests");
    }
}
