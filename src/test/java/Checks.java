/**
 * Counts the answers that are not as due. A test says by which sentence of the document the next
 * answers are due, and ends with finish().
 */
final class Checks {
    private static final int MOST_TOLD = 40;
    private static String sentence = "";
    private static int sentences = 0;
    private static int askedOfIt = 0;
    private static int asked = 0;
    private static int wrong = 0;

    private Checks() {
    }

    /** What comes now is due by this sentence; one of which nothing is asked is not tested. */
    static void by(String next) {
        lookAtTheLast();
        sentence = next;
        sentences++;
        askedOfIt = 0;
    }

    private static void lookAtTheLast() {
        if (sentences > 0 && askedOfIt == 0) {
            wrong++;
            System.out.println("nothing is asked of: " + sentence);
        }
    }

    static void due(String call, long got, long want) {
        asked++;
        askedOfIt++;
        if (got != want) {
            wrong++;
        }
        if (got != want && wrong <= MOST_TOLD) {
            System.out.println(call + " answered " + got + ", due is " + want
                    + (sentence.isEmpty() ? "" : " by: " + sentence));
        }
    }

    static void due(String call, boolean got, boolean want) {
        due(call, got ? 1 : 0, want ? 1 : 0);
    }

    static void finish(String test) {
        lookAtTheLast();
        System.out.println(test + ": " + sentences + " sentences, " + asked + " answers, "
                + wrong + " not as due");
        if (wrong != 0 || asked == 0) {
            System.exit(1);
        }
    }
}
