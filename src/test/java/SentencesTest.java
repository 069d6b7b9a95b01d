/** Each sentence of the document that names an edge, in the document's order; with an argument: what has no test. */
public final class SentencesTest {
    public static void main(String[] args) {
        Check check = new Check();
        new TermsOfWords(check).run();
        new TermsOfTexts(check).run();
        new TermsOfRules(check).run();
        new TermsOfWishes(check).run();
        new TermsOfFinder(check).run();
        new TermsOfQuestions(check).run();
        new TermsOfPrograms(check).run();
        new PromisesOfWords(check).run();
        new PromisesOfRules(check).run();
        new PromisesOfWishes(check).run();
        new PromisesOfFinder(check).run();
        new PromisesOfQuestions(check).run();
        new PromisesOfPrograms(check).run();
        check.endOfSentences(args.length > 0);
    }
}
