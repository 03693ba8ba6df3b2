/** Sentences of the document, each with a test of its own. */
final class Sentences {
    private String sentence = "";
    private int count, wrong;

    /** A test of a sentence; it is told by the document's own words. */
    void of(String itsWords, Runnable test) {
        sentence = itsWords;
        count++;
        test.run();
    }

    void due(String call, long got, long want) {
        if (got == want) return;
        wrong++;
        System.out.println("\"" + sentence + "\": " + call + " answered " + got + ", due is " + want);
    }

    void end() {
        System.out.println(count + " sentences, " + (wrong == 0 ? "all answers are as due" : wrong + " answers are not as due"));
        if (wrong != 0) System.exit(1);
    }
}
