/** For each sentence of the document that names a boundary case, a test of its own that quotes it. */
final class EdgeTests {
    private EdgeTests() {
    }

    public static void main(String[] args) {
        WholeEdges.run();
        TermEdges.run();
        KindEdges.run();
        ViewEdges.run();
        RefusalEdges.run();
        CallEdges.run();
        AnswerEdges.run();
        WholeEdges.notPromised();
        Doc.isTakenUp();
        Check.end();
    }
}
