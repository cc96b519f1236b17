/** Counts the answers that are not as due. */
final class Check {
    static final String STATE = "throws.IllegalStateException";
    static final String ARGUMENT = "throws.IllegalArgumentException";
    static final String INDEX = "throws.IndexOutOfBoundsException";

    private static int asked = 0;
    private static int wrong = 0;
    private static String sentence = "";
    private static int askedBefore = -1;

    interface Call {
        Object answer();
    }

    interface Deed {
        void go();
    }

    /** What a call answers, as a text; a boolean counts 1 or 0. */
    static String outcome(Call call) {
        try {
            Object answer = call.answer();
            if (answer instanceof Boolean b) {
                return b ? "1" : "0";
            }
            return String.valueOf(answer);
        } catch (RuntimeException e) {
            return "throws." + e.getClass().getSimpleName();
        }
    }

    static String outcomeOf(Deed deed) {
        return outcome(() -> {
            deed.go();
            return "done";
        });
    }

    static void due(String what, String want, String got) {
        asked++;
        if (!want.equals(got)) {
            wrong++;
            System.out.println(sentence + what + " answered " + got + ", due is " + want);
        }
    }

    static void due(String what, long want, Call call) {
        due(what, String.valueOf(want), outcome(call));
    }

    static void due(String what, String want, Call call) {
        due(what, want, outcome(call));
    }

    static void dueDeed(String what, String want, Deed deed) {
        due(what, want, outcomeOf(deed));
    }

    static void isTrue(String what, boolean holds) {
        due(what, "true", String.valueOf(holds));
    }

    /** The document's sentence that the answers from now on are about; each must have one at least. */
    static void sentence(String promise, String words) {
        endSentence();
        sentence = "[" + promise + ": " + words + "] ";
        askedBefore = asked;
    }

    private static void endSentence() {
        if (asked == askedBefore) {
            wrong++;
            System.out.println(sentence + "has no test");
        }
    }

    static int wrong() {
        return wrong;
    }

    static void end() {
        endSentence();
        System.out.println(asked + " answers, " + wrong + " not as due");
        if (asked == 0 || wrong != 0) {
            System.exit(1);
        }
    }

    private Check() {
    }
}
