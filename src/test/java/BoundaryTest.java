/**
 * A test for each sentence of the document that names a boundary case: it quotes the sentence, and at the end no word of
 * Terms and of the promises may have been left out.
 */
public final class BoundaryTest {
    private BoundaryTest() {
    }

    public static void main(String[] args) {
        EdgesOfTerms.run();
        EdgesOfTexts.run();
        EdgesOfHours.run();
        EdgesOfShelves.run();
        EdgesOfWalls.run();
        EdgesOfRules.run();
        EdgesOfCarts.run();
        EdgesOfWhatIf.run();
        EdgesInTruth.run();
        EdgesOfRefusals.run();
        Doc.nothingIsLeft();
        Check.end("BoundaryTest");
    }
}
