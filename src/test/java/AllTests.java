/** Runs every test of the project. */
public final class AllTests {
    private AllTests() {
    }

    public static void main(String[] args) {
        ReadmeTests.all();
        FaceTests.all();
        PromiseTests.all();
        RingBoundaries.all();
        MoveBoundaries.all();
        TickBoundaries.all();
        QuestionBoundaries.all();
        TextBoundaries.all();
        ForetoldTests.all();
        RandomRunTests.all();
        Check.close();
    }
}
