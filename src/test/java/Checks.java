/** Compares answers with what is due, and ends a test program with the exit code that tells. */
final class Checks {
    private static int right = 0;
    private static int wrong = 0;

    private Checks() {
    }

    static void due(String call, long got, long want) {
        if (got == want) {
            right++;
        } else {
            wrong++;
            System.out.println(call + " answered " + got + ", due is " + want);
        }
    }

    static void holds(String what, boolean so) {
        if (so) {
            right++;
        } else {
            wrong++;
            System.out.println("does not hold: " + what);
        }
    }

    /** Types the text in place of the one that was. */
    static void write(SnailTrails x, String text) {
        x.clearText();
        for (int index = 0; index < text.length(); index++) {
            x.type(text.charAt(index));
        }
    }

    static int perform(SnailTrails x, String text) {
        write(x, text);
        return x.perform();
    }

    static int wrong() {
        return wrong;
    }

    static void end() {
        System.out.println(right + " answers as due, " + wrong + " not");
        if (wrong != 0 || right == 0) {
            System.exit(1);
        }
    }
}
