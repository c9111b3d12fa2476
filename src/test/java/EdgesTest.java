import java.io.IOException;
import java.nio.file.Path;

/** The edges of promises 1 to 22: a test for each sentence of the document, named by the sentence. */
public final class EdgesTest {
    public static void main(String[] args) throws IOException {
        Sentences doc = new Sentences(Doc.read(Path.of("../shared/DOC.md")));
        CallEdges.tests(doc);
        LineEdges.tests(doc);
        CircleEdges.tests(doc);
        QuestionEdges.tests(doc);
        BracketEdges.tests(doc);
        YearEdges.tests(doc);
        CreditEdges.tests(doc);
        doc.end();
        Checks.end();
    }
}
