/** Collects the answers that are not as due, and ends the program with 1 if there was one. */
final class Check {
    /** So many complaints are shown for each sentence, or in all where there are no sentences. */
    private static final int SHOWN = 20;
    private static int asked = 0;
    private static int wrong = 0;
    private static int shown = 0;
    private static String sentence = "";
    private static int askedBefore = 0;

    private Check() {
    }

    /** Runs the tests; one that throws has failed, and the others run all the same. */
    static void all(Runnable... tests) {
        for (Runnable test : tests) {
            try {
                test.run();
            } catch (RuntimeException e) {
                asked++;
                complain("threw " + e);
            }
        }
    }

    /** The answers that follow are due by these words of a promise, or of the description (0). */
    static void sentence(int promise, String words) {
        endSentence();
        shown = 0;
        sentence = promise + " \"" + words + "\": ";
        that("the document says so", Document.says(promise, words));
        askedBefore = asked;
    }

    private static void endSentence() {
        if (!sentence.isEmpty()) {
            that("the sentence has a test", asked > askedBefore);
        }
    }

    static void due(String call, long got, long want) {
        asked++;
        if (got != want) {
            complain(call + " answered " + got + ", due is " + want);
        }
    }

    static void that(String claim, boolean holds) {
        asked++;
        if (!holds) {
            complain("does not hold: " + claim);
        }
    }

    private static void complain(String text) {
        wrong++;
        shown++;
        if (shown <= SHOWN) {
            System.out.println(sentence + text);
        }
    }

    static void finish() {
        endSentence();
        System.out.println(asked + " answers, " + wrong + " wrong");
        System.exit(wrong == 0 && asked > 0 ? 0 : 1);
    }
}
