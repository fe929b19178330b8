/** Compares answers with those that are due, tells the wrong ones and ends a test. */
final class Due {
    private String sentence = "";
    private int sentences;
    private int asked;
    private int askedAhead;
    private int wrong;

    /** From here on the answers are due by this sentence of the document. */
    void sentence(String words) {
        closeSentence();
        sentence = words;
        sentences++;
        askedAhead = asked;
    }

    void is(String call, long got, long want) {
        asked++;
        if (got != want) {
            tell(call + " answered " + got + ", due is " + want);
        }
    }

    void holds(String what, boolean is) {
        is(what, is ? 1 : 0, 1);
    }

    void finish() {
        closeSentence();
        System.out.println(sentences + " sentences, " + asked + " answers, " + wrong + " wrong");
        System.exit(wrong == 0 && asked > 0 ? 0 : 1);
    }

    /** A sentence for which nothing was asked has no test. */
    private void closeSentence() {
        if (sentences > 0 && asked == askedAhead) {
            tell("nothing was asked");
        }
    }

    private void tell(String what) {
        wrong++;
        System.out.println((sentence.isEmpty() ? "" : "\"" + sentence + "\": ") + what);
    }
}
