/** Every sentence of the document has a test of its own: see Sentence. */
public final class SentencesTest {
    private SentencesTest() {
    }

    public static void main(String[] args) {
        FaceSentences.run();
        ChangesPlain.run();
        QueriesPlain.run();
        TextsPlain.run();
        TermsBounds.run();
        RefusalsBounds.run();
        ChangesBounds.run();
        QueriesBounds.run();
        TotalsBounds.run();
        ScriptsBounds.run();
        UndoBounds.run();
        wordsThatBindNoCall();
        Sentence.checkThatNoneIsMissing();
        Check.finish();
    }

    private static void wordsThatBindNoCall() {
        Sentence.withoutTest("What it is", "A treasury in which flies are money.");
        Sentence.withoutTest("Terms", "Vaults keep flies of three kinds, exchange them by rates, issue drops of dew "
            + "against their value, and are audited; vaults that fail audits are frozen. The class computes the flies "
            + "of each kind and the value of all vaults in two ways, keeps accounts of flies and dew, and offers "
            + "predictions, rankings, a small command language, undo and a snapshot. It is not thread-safe.");
        for (String free : Sentence.linesOf("Not promised")) {
            Sentence.withoutTest("Not promised", free);
        }
    }
}
