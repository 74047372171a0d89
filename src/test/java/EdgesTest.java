import java.io.IOException;

/** Each sentence of the document that names an edge, with a test that is named for it: promises 1 to 44, and the Terms. */
public final class EdgesTest {
    public static void main(String[] args) throws IOException {
        Doc doc = Doc.read();
        Edge.begin(doc);
        TextEdges.run();
        FaultEdges.run();
        StepEdges.run();
        QuestionEdges.run();
        TapeEdges.run();
        ToldEdges.run();
        AskedEdges.run();
        SmallEdges.run();
        PastEdges.run();
        Edge.endSentence();
        String left = doc.left();
        Bench.due("sentences that no test is named for:\n" + left + "these", left.lines().count(), 0);
        Bench.end();
    }
}
