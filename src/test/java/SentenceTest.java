/** One test and more for each sentence of the document that names a boundary; see Sentences. */
public final class SentenceTest {
    public static void main(String[] args) {
        Sentences.readDocument();
        SentencesOfPlane.all();
        SentencesOfTerms.all();
        SentencesOfAnswers.all();
        SentencesOfBoxes.all();
        SentencesOfSquares.all();
        SentencesOfRows.all();
        SentencesOfTapes.all();
        Sentences.end();
    }
}
