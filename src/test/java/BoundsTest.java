/**
 * The boundary cases of the document, a test of its own for each sentence: Sentences.test(..) tells
 * which one, and Sentences.end() that none of the Terms and of the promises was left out.
 */
public final class BoundsTest {
    private BoundsTest() {
    }

    public static void main(String[] args) {
        BoundsOfMethods.all();
        BoundsOfMay.all();
        BoundsOfRun.all();
        BoundsOfText.all();
        BoundsOfStates.all();
        BoundsOfChanges.all();
        BoundsOfQuestions.all();
        BoundsOfRunQuestions.all();
        BoundsOfDigest.all();
        Sentences.end();
        Check.end("BoundsTest");
    }
}
