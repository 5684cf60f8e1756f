import java.io.IOException;

/** Each sentence of the document, from its first line, with a test of its own at the boundaries that it names. */
final class EdgesTest {
    public static void main(String[] args) throws IOException {
        Sentences sentences = new Sentences();
        new FaceEdges(sentences).all();
        new LandEdges(sentences).all();
        new SensorEdges(sentences).all();
        new WarningEdges(sentences).all();
        new RecordEdges(sentences).all();
        new RefusalEdges(sentences).all();
        sentences.holdAll();
        sentences.check.end();
    }
}
