/** The terms and promises of the document, sentence by sentence. */
public final class PromiseTest {
    public static void main(String[] args) {
        TimeTerms.run();
        AccountPromises.run();
        PaymentPromises.run();
        FeaturePromises.run();
        ConditionPromises.run();
        RulePromises.run();
        ReasonPromises.run();
        AlertPromises.run();
        NetworkPromises.run();
        ReviewPromises.run();
        ExceptionTerms.run();
        Doc.checkAllTested();
        Check.finish();
    }
}
