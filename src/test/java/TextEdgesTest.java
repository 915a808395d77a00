/** The boundary cases in TEXTS, character by character. */
public final class TextEdgesTest {
    private static final int FULL = SnailTrails.FULL;
    private static final String DIGITS = "0123456789";
    private static final String LANES = "012345";
    private static final String BEGINNINGS = "sf.";
    private static final String TOO_EARLY = "or the length of the text if it ends too early (the empty text does)";
    private static final String NOT_ALLOWED = "The fault of the text is the index, from 0, of the first character that is not allowed at its place";

    private TextEdgesTest() {
    }

    public static void main(String[] args) {
        emptyText();
        sixtyCharacters();
        beginnings();
        snails();
        frosts();
        turns();
        oneOrMore();
        noZeroInFront();
        digitsTooMany();
        theFirstFault();
        Checks.end();
    }

    private static int performed(String text) {
        return Checks.perform(new SnailTrails(), text);
    }

    /** Behind the stem just these characters are at their place. */
    private static void allowed(String stem, String characters) {
        for (int sign = 0; sign <= 300; sign++) {
            allowedOrNot(stem, (char) sign, characters);
        }
        for (char far : new char[] {'\u0660', '\u0966', '\u2028', '\uff10', '\uff53', Character.MAX_VALUE}) {
            allowedOrNot(stem, far, characters);
        }
    }

    private static void allowedOrNot(String stem, char sign, String characters) {
        int fault = -100 - stem.length();
        boolean isAllowed = characters.indexOf(sign) >= 0;
        int answer = performed(stem + sign);
        if (isAllowed) {
            Checks.holds("perform() of " + stem + sign + " has no fault there", answer != fault);
        } else {
            Checks.due("perform() of " + stem + " and the character " + (int) sign, answer, fault);
        }
    }

    private static void early(String... texts) {
        for (String text : texts) {
            Checks.due("perform() of \"" + text + "\"", performed(text), -100 - text.length());
        }
    }

    private static void sound(int things, String... texts) {
        for (String text : texts) {
            Checks.due("perform() of \"" + text + "\"", performed(text), things);
        }
    }

    private static void fault(int index, String... texts) {
        for (String text : texts) {
            Checks.due("perform() of \"" + text + "\"", performed(text), -100 - index);
        }
    }

    private static void emptyText() {
        Checks.sentence(0, TOO_EARLY);
        early("");
        SnailTrails x = new SnailTrails();
        Checks.due("perform() at first", x.perform(), -100);
        x.type('.');
        Checks.due("perform() of .", x.perform(), -101);
        x.clearText();
        Checks.due("perform() of the cleared text", x.perform(), -100);
    }

    private static void sixtyCharacters() {
        Checks.sentence(0, "There is a text of at most 60 characters, empty at first.");
        SnailTrails x = new SnailTrails();
        Checks.due("count(14)", x.count(14), 0);
        String full = ".1;".repeat(19) + ".99";
        for (int index = 0; index < 60; index++) {
            Checks.due("type(), character " + index, x.type(full.charAt(index)), index + 1);
        }
        Checks.due("type('9'), the 61st", x.type('9'), FULL);
        Checks.due("type(';'), the 61st", x.type(';'), FULL);
        Checks.due("count(14)", x.count(14), 60);
        Checks.due("perform() of 60 characters", x.perform(), 20);
        Checks.due("count(0)", x.count(0), 19 + 99);
        early("s3*99;".repeat(10), ".1;".repeat(20));
        fault(59, ".1;".repeat(19) + ".1.", "s3*99;".repeat(9) + "s3*99x");
    }

    private static void beginnings() {
        Checks.sentence(0, "one or more of these with \";\" between two");
        allowed("", BEGINNINGS);
        allowed("s3*0;", BEGINNINGS);
        allowed("f3.7=5;", BEGINNINGS);
        allowed(".7;", BEGINNINGS);
        allowed("s3*0;f3.7=5;.12;", BEGINNINGS);
    }

    private static void snails() {
        Checks.sentence(0, "\"s\", a lane (0 to 5), \"*\" and slime (0 to 99: a snail is set)");
        allowed("s", LANES);
        for (char lane : LANES.toCharArray()) {
            allowed("s" + lane, "*");
        }
        allowed("s3*", DIGITS);
        allowed("s3*0", ";");
        for (int slime = 1; slime <= 9; slime++) {
            allowed("s3*" + slime, DIGITS + ";");
        }
        for (int slime = 10; slime <= 99; slime += slime == 10 ? 9 : 20) {
            allowed("s3*" + slime, ";");
        }
        early("s", "s0", "s5", "s0*");
        for (int slime = 0; slime <= 99; slime++) {
            SnailTrails x = new SnailTrails();
            Checks.due("perform() of s5*" + slime, Checks.perform(x, "s5*" + slime), 1);
            Checks.due("snail(0, 2) of s5*" + slime, x.snail(0, 2), slime);
            Checks.due("snail(0, 0) of s5*" + slime, x.snail(0, 0), 5);
        }
    }

    private static void frosts() {
        Checks.sentence(0, "\"f\", a lane, \".\", a row (0 to 19), \"=\" and frost (0 to 9)");
        allowed("f", LANES);
        for (char lane : LANES.toCharArray()) {
            allowed("f" + lane, ".");
        }
        allowed("f3.", DIGITS);
        allowed("f3.0", "=");
        allowed("f3.1", DIGITS + "=");
        for (int row = 2; row <= 19; row++) {
            allowed("f3." + row, "=");
        }
        allowed("f3.7=", DIGITS);
        allowed("f3.19=", DIGITS);
        for (char frost : DIGITS.toCharArray()) {
            allowed("f3.7=" + frost, ";");
        }
        early("f", "f0", "f5", "f0.", "f0.1", "f0.9", "f0.19", "f0.1=");
        for (int cell = 0; cell < 120; cell++) {
            SnailTrails x = new SnailTrails();
            String text = "f" + cell % 6 + "." + cell / 6 + "=" + (cell % 4 + 5);
            Checks.due("perform() of " + text, Checks.perform(x, text), 1);
            Checks.due("cell() of " + text, x.cell(cell % 6, cell / 6, 0), cell % 4 + 5);
            Checks.due("count(5) of " + text, x.count(5), 480 + cell % 4 + 1);
        }
    }

    private static void turns() {
        Checks.sentence(0, "\".\" and turns (1 to 99: they pass)");
        allowed(".", "123456789");
        for (int turns = 1; turns <= 9; turns++) {
            allowed("." + turns, DIGITS + ";");
        }
        for (int turns = 10; turns <= 99; turns += turns == 10 ? 9 : 20) {
            allowed("." + turns, ";");
        }
        early(".");
        for (int turns = 1; turns <= 99; turns++) {
            SnailTrails x = new SnailTrails();
            Checks.due("perform() of ." + turns, Checks.perform(x, "." + turns), 1);
            Checks.due("count(0) of ." + turns, x.count(0), turns);
        }
    }

    private static void oneOrMore() {
        Checks.sentence(0, "A race is a text: one or more of these with \";\" between two");
        sound(1, ".1", "s0*0", "f0.0=0");
        sound(2, ".1;.1", "s0*0;f0.0=0", "f0.0=0;.1", "s0*0;s1*0");
        sound(20, ".1;".repeat(19) + ".1", ".9;".repeat(19) + ".9");
        sound(12, "s0*1;s1*1;s2*1;s3*1;s4*1;s5*1;.1;.2;.3;.4;.5;.6");
        early("s0*0;", "f0.0=0;", ".1;", ".1;.1;");
        fault(0, ";", ";.1", " .1");
        fault(2, ".1 ;.1", ".1,.1", ".1.1", ".1s0*0");
        fault(3, ".1;;.1", ".1; .1");
    }

    private static void noZeroInFront() {
        Checks.sentence(0, "Numbers have no zero in front, unless they are the single digit 0");
        sound(1, "s0*0", "f0.0=0");
        fault(2, "s00*5", "s05*5", "f00.1=1", "f05.1=1");
        fault(4, "s0*00", "s0*05", "s0*099", "f0.00=1", "f0.01=1", "f0.019=1");
        fault(1, ".0", ".01", ".00", ".099");
        fault(6, "f0.1=00", "f0.1=05");
    }

    private static void digitsTooMany() {
        Checks.sentence(0, "a digit by which a number would be greater than told is not allowed");
        fault(1, "s6*5", "s9*5", "f6.1=1", "f9.1=1");
        fault(2, "s10*5", "s50*5", "f10.1=1");
        fault(5, "s0*100", "s0*990", "s0*999", "f0.100=1", "f0.190=1");
        fault(4, "f0.20=1", "f0.21=1", "f0.29=1", "f0.99=1");
        fault(6, "f0.1=10", "f0.1=90", "f0.1=99");
        fault(3, ".100", ".990", ".999");
        sound(1, "s5*99", "f5.19=9", ".99");
    }

    private static void theFirstFault() {
        Checks.sentence(0, NOT_ALLOWED);
        fault(0, "x", "xx", "0", "S0*0", "xs0*0");
        fault(1, "sx", "sx*x", ".x.x");
        fault(4, "s0*5x", "s0*5xx", "s0*5x;s0*5x");
        fault(8, "s0*50;.1x.x", "f0.1=5;.x", "s0*5;s0*x");
    }
}
