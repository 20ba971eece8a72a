/** Collects the answers that are not as due, and ends the program with 1 if there was one. */
final class Check {
    private static final int SHOWN = 50;
    private static int asked = 0;
    private static int wrong = 0;

    private Check() {
    }

    static void due(String call, long got, long want) {
        asked++;
        if (got != want) {
            complain(call + " answered " + got + ", due is " + want);
        }
    }

    static void that(String claim, boolean holds) {
        asked++;
        if (!holds) {
            complain("does not hold: " + claim);
        }
    }

    private static void complain(String text) {
        wrong++;
        if (wrong <= SHOWN) {
            System.out.println(text);
        }
    }

    static void finish() {
        System.out.println(asked + " answers, " + wrong + " wrong");
        System.exit(wrong == 0 && asked > 0 ? 0 : 1);
    }
}
