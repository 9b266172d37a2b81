/** Counts the answers that are not as due; the end of a test is its exit code. */
final class Due {
    static final long NONE = Long.MIN_VALUE;
    static final int BAD = -1, NOT = -2, FULL = -3, STATE = -5, VOID = -2000000000;
    private static int wrong = 0;
    private static int asked = 0;
    private static String sentence = "";
    private static int sentences = 0;

    private Due() {
    }

    /** The sentence of the document by which the next answers are due. */
    static void by(String text) {
        sentence = text + ": ";
        sentences++;
    }

    static void is(String what, long got, long want) {
        asked++;
        if (got == want) return;
        wrong++;
        if (wrong <= 40) System.out.println(sentence + what + " answered " + got + ", due is " + want);
    }

    static void so(String what, boolean holds) {
        is(what, holds ? 1 : 0, 1);
    }

    static void end() {
        if (sentences > 0) System.out.print(sentences + " sentences: ");
        System.out.println(wrong == 0 ? asked + " answers are as due" : wrong + " of " + asked + " answers are not as due");
        if (wrong != 0) System.exit(1);
    }
}
