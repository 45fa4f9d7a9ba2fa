/** Each sentence of the document has a test of its own, which quotes it and names its promise. */
public final class SentencesTest {
    private SentencesTest() {
    }

    public static void main(String[] args) throws Exception {
        Sentences t = new Sentences(args.length > 0 ? args[0] : "../shared");
        StreetSentences.test(t);
        TapeSentences.test(t);
        ThrowSentences.test(t);
        OutcomeSentences.test(t);
        TruthSentences.test(t);
        ShelfPromises.test(t);
        StreetPromises.test(t);
        ThrowPromises.test(t);
        OutcomePromises.test(t);
        MeasurePromises.test(t);
        TruthPromises.test(t);
        t.close();
    }
}
