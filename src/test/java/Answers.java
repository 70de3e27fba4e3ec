/**
 * Counts and prints the answers that are not the ones due, each under the sentence of the document
 * that asks for it. No test itself: the tests use it.
 */
final class Answers {
    /** A document's object is used for so many calls; what later ones answer is free. */
    static final int CALLS = 512;

    private String sentence = null;
    private int sentences = 0;
    private int asked = 0;
    private int askedOfSentence = 0;
    private int wrong = 0;

    /** The answers from here on are those that this sentence asks for. */
    void says(String next) {
        endSentence();
        sentence = next;
        sentences++;
        askedOfSentence = 0;
    }

    void due(String call, long got, long want) {
        asked++;
        askedOfSentence++;
        if (got != want) {
            wrong++;
            System.out.println("'" + sentence + "': " + call + " answered " + got + ", due is " + want);
        }
    }

    void end() {
        endSentence();
        System.out.println(sentences + " sentences, " + asked + " answers, " + wrong + " not as due");
        if (asked == 0 || wrong != 0) {
            System.exit(1);
        }
    }

    // A sentence that nothing was asked for could be broken unseen.
    private void endSentence() {
        if (sentence != null && askedOfSentence == 0) {
            wrong++;
            System.out.println("'" + sentence + "': nothing was asked");
        }
    }
}
