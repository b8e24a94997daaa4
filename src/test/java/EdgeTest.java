/** Each sentence of the document that names a boundary, with runs of calls at it and one beyond (all promises). */
public final class EdgeTest {
    public static void main(String[] args) {
        EdgesOfTerms.hold();
        EdgesOfLaying.hold();
        EdgesOfRuns.hold();
        EdgesOfText.hold();
        EdgesOfLooks.hold();
        EdgesOfActions.hold();
        EdgesOfWouldBe.hold();
        EdgesOfScripts.hold();
        EdgesOfSlots.hold();
        EdgesOfChangingNothing.hold();
        Sentences.quoteAllPromises();
        Check.end("EdgeTest");
    }
}
