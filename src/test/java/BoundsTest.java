/** For each sentence of the document that names a boundary case, a test of its own; see Sentence. */
public final class BoundsTest {
    private BoundsTest() {
    }

    public static void main(String[] args) {
        TermsBounds.run();
        RefusalsBounds.run();
        ChangesBounds.run();
        QueriesBounds.run();
        TotalsBounds.run();
        ScriptsBounds.run();
        UndoBounds.run();
        Sentence.checkThatNoneIsMissing();
        Check.finish();
    }
}
