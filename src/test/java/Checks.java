import java.util.function.Consumer;

/** Compares answers with what is due, and ends a test program with the exit code that tells. */
final class Checks {
    private static int right = 0;
    private static int wrong = 0;
    private static int sentences = 0;
    private static int checkedBefore = 0;
    private static String named = "";

    private Checks() {
    }

    /**
     * Names the words of the document that the checks from here on are about: those of a promise, or of
     * the Terms for the promise 0. SentencesTest looks whether the document says so.
     */
    static void sentence(int promise, String words) {
        holdsSome();
        named = (promise == 0 ? "Terms" : "Promise " + promise) + ", \"" + words + "\": ";
        checkedBefore = right + wrong;
        sentences++;
    }

    /** A sentence that is named, but not checked, has no test. */
    private static void holdsSome() {
        if (sentences > 0 && right + wrong == checkedBefore) {
            holds("something is checked", false);
        }
    }

    static void due(String call, long got, long want) {
        if (got == want) {
            right++;
        } else {
            wrong++;
            System.out.println(named + call + " answered " + got + ", due is " + want);
        }
    }

    static void holds(String what, boolean so) {
        if (so) {
            right++;
        } else {
            wrong++;
            System.out.println(named + "does not hold: " + what);
        }
    }

    /** After the two runs of calls, on a new object each, all that can be told is the same. */
    static void alike(String what, Consumer<SnailTrails> run, Consumer<SnailTrails> other) {
        String difference = Told.difference(run, other);
        holds(what + difference, difference.isEmpty());
    }

    /** After the two runs the states are the same, the texts, histories and stops perhaps not. */
    static void sameState(String what, Consumer<SnailTrails> run, Consumer<SnailTrails> other) {
        String difference = Told.differenceOfStates(run, other);
        holds(what + difference, difference.isEmpty());
    }

    /** Types the text in place of the one that was. */
    static void write(SnailTrails x, String text) {
        x.clearText();
        for (int index = 0; index < text.length(); index++) {
            x.type(text.charAt(index));
        }
    }

    static int perform(SnailTrails x, String text) {
        write(x, text);
        return x.perform();
    }

    static int wrong() {
        return wrong;
    }

    static void end() {
        holdsSome();
        String of = sentences == 0 ? "" : " of " + sentences + " sentences";
        System.out.println(right + " answers" + of + " as due, " + wrong + " not");
        if (wrong != 0 || right == 0) {
            System.exit(1);
        }
    }
}
