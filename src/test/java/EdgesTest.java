/** Every sentence of the document's prose, terms and thirty promises, held on both sides of the bounds that it names. */
public final class EdgesTest {
    public static void main(String[] args) {
        WholeEdges.hold();
        PostEdges.hold();
        LetterEdges.hold();
        AnswerEdges.hold();
        LawEdges.hold();
        SheetEdges.hold();
        OrderEdges.hold();
        Sentences.noneIsLeftOut();
        Check.end();
    }
}
