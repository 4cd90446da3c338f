/**
 * Promises 1 to 35 and the terms: each sentence of the document that names a boundary case has a test
 * of its own. The first argument is the program's file, the second one the document's.
 */
public final class EdgesTest {
    public static void main(String[] args) throws Exception {
        Edges edges = new Edges(args[1]);
        new EdgesOfTerms(edges).run();
        new EdgesOfRegions(edges).run();
        new EdgesOfJudging(edges).run();
        new EdgesOfPresentSentence(edges).run();
        new EdgesOfBook(edges).run();
        new EdgesOfContents(edges).run();
        new EdgesOfAnswers(edges).run();
        new EdgesOfWhatIf(edges).run();
        edges.end();
    }
}
