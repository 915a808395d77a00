/** Promises 7 to 10: the text, races read from it, and stops. */
public final class TextTest {
    private static final int BAD_VALUE = SnailTrails.BAD_VALUE;
    private static final int FULL = SnailTrails.FULL;
    private static final int NOT_POSSIBLE = SnailTrails.NOT_POSSIBLE;
    private static final int NONE = SnailTrails.NONE;

    private TextTest() {
    }

    public static void main(String[] args) {
        typeAndClear();
        faults();
        faultsOfFullTexts();
        soundTexts();
        performDoesAll();
        performDoesNothing();
        performIsOneAct();
        stopped();
        Checks.end();
    }

    private static void typeAndClear() {
        SnailTrails x = new SnailTrails();
        char[] any = {0, 's', ' ', (char) 255, (char) 256, Character.MAX_VALUE};
        for (int index = 0; index < 60; index++) {
            Checks.due("7: type()", x.type(any[index % any.length]), index + 1);
        }
        Checks.due("7: type('s') the 61st", x.type('s'), FULL);
        Checks.due("7: count(14)", x.count(14), 60);
        Checks.due("7: count(13), no act", x.count(13), 0);
        Checks.due("8: clearText()", x.clearText(), 60);
        Checks.due("8: count(14)", x.count(14), 0);
        Checks.due("8: clearText()", x.clearText(), 0);
        Checks.due("7: type('.')", x.type('.'), 1);
        Checks.due("7: type('7')", x.type('7'), 2);
        Checks.due("9: perform()", x.perform(), 1);
        Checks.due("9: count(14), the text stays", x.count(14), 2);
        Checks.due("9: perform() again", x.perform(), 1);
        Checks.due("9: count(0)", x.count(0), 14);
        Checks.due("8: clearText()", x.clearText(), 2);
        Checks.due("8: count(13), no act", x.count(13), 2);
    }

    private static void fault(String text, int index) {
        SnailTrails x = new SnailTrails();
        Checks.due("9: perform() of \"" + text + "\"", Checks.perform(x, text), -100 - index);
        Checks.due("9: count(13)", x.count(13), 0);
        Checks.due("9: count(1)", x.count(1), 0);
        Checks.due("9: count(0)", x.count(0), 0);
        Checks.due("10: stopped(0), a fault is no stop", x.stopped(0), NONE);
    }

    private static void faults() {
        String[] early = {"", "s", "s0", "s0*", "f", "f5", "f5.", "f5.1", "f5.19", "f5.19=", ".", ".9;", "s0*1;", "f0.0=0;s",
            "s0*0;.", ".1;f0.0"};
        for (String text : early) {
            fault(text, text.length());
        }
        String[] atOnce = {"x", "S0*1", "F0.1=1", ";", "0", "*", "=", " s0*1", "\u0173", "9"};
        for (String text : atOnce) {
            fault(text, 0);
        }
        String[] atOne = {"s6*1", "s-1*1", "s*1", "f6.0=1", "f.0=1", ".0", ".x", ".-1", "..1", ".;", "s 0*1", "s9", ".01", "s/", "s:"};
        for (String text : atOne) {
            fault(text, 1);
        }
        String[] atTwo = {"s00*1", "s01*1", "s10*1", "s0.1", "s0=1", "s0;", "f00.1=1", "f0*1=1", "f0=1", "f12.0=1", ".1.", ".1=",
            ".5s0*1", ".9x"};
        for (String text : atTwo) {
            fault(text, 2);
        }
        String[] atThree = {"s0*x", "s0*;", "s0*-1", "f0.x=1", "f0.=1", "f0.-1=1", ".100", ".990", ".1;;", ".1;0", ".1; .1", ".99.",
            "s0*:", "f0./=1", ".12a"};
        for (String text : atThree) {
            fault(text, 3);
        }
        String[] atFour = {"s0*00", "s0*01", "s0*5x", "s0*5s0*5", "f0.00=1", "f0.01=1", "f0.20=1", "f0.21=1", "f0.30=1", "f0.99=1", "f0.2;",
            "f0.2*1", ".1;.0"};
        for (String text : atFour) {
            fault(text, 4);
        }
        fault("s0*100", 5);
        fault("s0*990", 5);
        fault("f0.100=1", 5);
        fault("f0.190=1", 5);
        fault("f0.1=", 5);
        fault("f0.1=x", 5);
        fault("f0.1=;", 5);
        fault("f0.1=10", 6);
        fault("f0.1=00", 6);
        fault("f0.1=9.", 6);
        fault("s0*5;x", 5);
        fault("s0*5;s7*1", 6);
        fault("s1*5,s2*5", 4);
        fault("s1*5;s2*5;f1.1=1;.5;;", 20);
    }

    private static void faultsOfFullTexts() {
        String things = ".1;".repeat(20);
        fault(things, 60);
        fault(things.substring(0, 59) + "x", 59);
        fault("s0*1;".repeat(12), 60);
        fault("f0.0=10;".repeat(7), 6);
    }

    private static void soundTexts() {
        SnailTrails x = new SnailTrails();
        Checks.due("9: perform() of 20 things", Checks.perform(x, ".1;".repeat(20).substring(0, 59)), 20);
        Checks.due("9: count(0)", x.count(0), 20);
        Checks.due("9: perform() of 60 characters", Checks.perform(x, ".1;".repeat(19) + ".99"), 20);
        Checks.due("9: count(0)", x.count(0), 20 + 19 + 99);
        Checks.due("9: perform()", Checks.perform(x, "f5.19=0;f0.0=8;f4.10=1;f3.9=2"), 4);
        Checks.due("9: cell(5, 19, 0)", x.cell(5, 19, 0), 0);
        Checks.due("9: cell(0, 0, 0)", x.cell(0, 0, 0), 8);
        Checks.due("9: cell(4, 10, 0)", x.cell(4, 10, 0), 1);
        Checks.due("9: cell(3, 9, 0)", x.cell(3, 9, 0), 2);
        Checks.due("9: perform()", Checks.perform(x, "s5*99;s0*0;s1*10;s2*9"), 4);
        int[][] due = {{5, 99}, {0, 0}, {1, 10}, {2, 9}};
        for (int snail = 0; snail < due.length; snail++) {
            Checks.due("9: snail(" + snail + ", 0)", x.snail(snail, 0), due[snail][0]);
            Checks.due("9: snail(" + snail + ", 2)", x.snail(snail, 2), due[snail][1]);
        }
    }

    private static void performDoesAll() {
        SnailTrails x = new SnailTrails();
        SnailTrails y = new SnailTrails();
        Checks.due("9: perform()", Checks.perform(x, "s2*50;f2.1=0;.3;s2*7;f1.1=4;.2"), 6);
        y.setSnail(2, 50);
        y.setFrost(2, 1, 0);
        y.pass(3);
        y.setSnail(2, 7);
        y.setFrost(1, 1, 4);
        y.pass(2);
        for (int what = 0; what < 13; what++) {
            Checks.due("9: count(" + what + ")", x.count(what), y.count(what));
        }
        for (int what = 0; what < 10; what++) {
            Checks.due("9: snail(1, " + what + ")", x.snail(1, what), y.snail(1, what));
        }
        Checks.due("9: perform() of NONE alone", Checks.perform(x, "f0.10=5"), 1);
        Checks.due("9: count(13), it is an act", x.count(13), 2);
        Checks.due("10: stopped(0), NONE does not stop", x.stopped(0), NONE);
    }

    private static void performDoesNothing() {
        SnailTrails x = new SnailTrails();
        x.setSnail(3, 9);
        x.pass(1);
        Checks.due("9: perform()", Checks.perform(x, "s0*9;.5;f0.0=0;s1*1;s1*1;.1"), NOT_POSSIBLE);
        Checks.due("9: count(0)", x.count(0), 1);
        Checks.due("9: count(1)", x.count(1), 1);
        Checks.due("9: cell(0, 0, 0)", x.cell(0, 0, 0), 4);
        Checks.due("9: snail(0, 1)", x.snail(0, 1), 1);
        Checks.due("9: cell(3, 0, 2)", x.cell(3, 0, 2), 1);
        Checks.due("9: count(13)", x.count(13), 2);
        Checks.due("9: count(14), the text stays", x.count(14), 27);
        Checks.due("9: setSnail(0, 1) no snail is left", x.setSnail(0, 1), 1);
    }

    private static void performIsOneAct() {
        SnailTrails x = new SnailTrails();
        x.setFrost(0, 0, 0);
        Checks.due("9: perform()", Checks.perform(x, "s1*9;.1;.1;.1;f0.0=1;s2*3"), 6);
        Checks.due("9: count(13)", x.count(13), 2);
        Checks.due("9: undo()", x.undo(), 1);
        Checks.due("9: count(0)", x.count(0), 0);
        Checks.due("9: count(1)", x.count(1), 0);
        Checks.due("9: cell(0, 0, 0)", x.cell(0, 0, 0), 0);
        Checks.due("11: count(14), undo() lets the text be", x.count(14), 25);
    }

    private static void stopped() {
        SnailTrails x = new SnailTrails();
        int[] wrong = {-1, 2, Integer.MIN_VALUE, Integer.MAX_VALUE};
        for (int what : wrong) {
            Checks.due("10: stopped(" + what + "), BAD_VALUE first", x.stopped(what), BAD_VALUE);
        }
        Checks.due("9: perform()", Checks.perform(x, "s0*0;s0*0"), NOT_POSSIBLE);
        Checks.due("10: stopped(0)", x.stopped(0), 1);
        Checks.due("10: stopped(1)", x.stopped(1), NOT_POSSIBLE);
        Checks.due("9: perform()", Checks.perform(x, "s0*0;s1*0;s2*0;s3*0;s4*0;s5*0"), 6);
        Checks.due("10: stopped(0), also if a later one was done", x.stopped(0), 1);
        Checks.due("9: perform() with a fault", Checks.perform(x, "s0*0;s"), -106);
        Checks.due("10: stopped(0), a fault is no stop", x.stopped(0), 1);
        x.keep();
        x.undo();
        x.restore();
        Checks.due("10: stopped(1) is no part of the state", x.stopped(1), NOT_POSSIBLE);
        Checks.due("10: stopped(3)", x.stopped(3), BAD_VALUE);
        x.takeOff(0);
        x.takeOff(1);
        Checks.due("9: perform()", Checks.perform(x, ".1;s0*0;s1*0"), 3);
        x.takeOff(2);
        Checks.due("9: perform() the ninth snail", Checks.perform(x, "f2.1=3;f2.1=3;s2*0"), NOT_POSSIBLE);
        Checks.due("10: stopped(0)", x.stopped(0), 2);
        Checks.due("10: stopped(1)", x.stopped(1), FULL);
        Checks.due("9: cell(2, 1, 0)", x.cell(2, 1, 0), 4);
        Checks.due("9: perform()", Checks.perform(x, "s3*0"), NOT_POSSIBLE);
        Checks.due("10: stopped(0), the latest", x.stopped(0), 0);
        Checks.due("10: stopped(1), NOT_POSSIBLE before FULL", x.stopped(1), NOT_POSSIBLE);
    }
}
