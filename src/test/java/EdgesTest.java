import java.io.IOException;

/** Each sentence of the document, with a test of its own at the boundaries that it names. Promises 1 to 37. */
final class EdgesTest {
    public static void main(String[] args) throws IOException {
        Sentences sentences = new Sentences();
        new LandEdges(sentences).all();
        new SensorEdges(sentences).all();
        new WarningEdges(sentences).all();
        new RecordEdges(sentences).all();
        new RefusalEdges(sentences).all();
        sentences.holdAll("Terms|Promise .*");
        sentences.check.end();
    }
}
