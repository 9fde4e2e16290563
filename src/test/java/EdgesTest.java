/**
 * All promises: for each sentence of the document a test of its own, that begins with the sentence.
 * Doc sees to it that no word of the document is left without one.
 */
public final class EdgesTest {
    public static void main(String[] args) {
        EdgesOfTerms.test();
        EdgesOfRows.test();
        EdgesOfTexts.test();
        EdgesOfHours.test();
        EdgesOfActs.test();
        EdgesOfForetold.test();
        EdgesOfSearches.test();
        EdgesOfGuesses.test();
        EdgesOfAsks.test();
        Doc.end();
        Due.end();
    }
}
