/** Each part of the Returns lines of the promises 2 to 13. */
public final class ReturnsOfActsTest {
    private static final int UNKNOWN = SnailTrails.UNKNOWN;
    private static final int BAD_VALUE = SnailTrails.BAD_VALUE;
    private static final int FULL = SnailTrails.FULL;
    private static final int NOT_POSSIBLE = SnailTrails.NOT_POSSIBLE;
    private static final int NONE = SnailTrails.NONE;

    private ReturnsOfActsTest() {
    }

    public static void main(String[] args) {
        aNewObject();
        setSnail();
        setSnailOfFull();
        takeOff();
        setFrost();
        set();
        trailsThatASettingTakes();
        pass();
        passToTheLastTurn();
        type();
        clearText();
        perform();
        performAllOrNothing();
        stopped();
        undo();
        keep();
        restore();
        Checks.end();
    }

    private static void aNewObject() {
        Checks.sentence(1, "Creates a pane without snails, at the turn 0.");
        SnailTrails x = new SnailTrails();
        Checks.due("count(0)", x.count(0), 0);
        Checks.due("count(1)", x.count(1), 0);
        Checks.due("count(2)", x.count(2), 0);
        Checks.due("count(3)", x.count(3), 0);
        Checks.due("leader()", x.leader(), NONE);
        Checks.due("snail(0, 0)", x.snail(0, 0), UNKNOWN);
    }

    private static void setSnail() {
        Checks.sentence(2, "its number");
        SnailTrails x = new SnailTrails();
        Checks.due("setSnail(5, 0)", x.setSnail(5, 0), 0);
        Checks.due("setSnail(0, 99)", x.setSnail(0, 99), 1);
        Checks.due("setSnail(3, 50)", x.setSnail(3, 50), 2);
        Checks.sentence(2, "UNKNOWN (lane)");
        Checks.due("setSnail(-1, 50)", x.setSnail(-1, 50), UNKNOWN);
        Checks.due("setSnail(6, 50)", x.setSnail(6, 50), UNKNOWN);
        Checks.sentence(2, "BAD_VALUE");
        Checks.due("setSnail(1, -1)", x.setSnail(1, -1), BAD_VALUE);
        Checks.due("setSnail(1, 100)", x.setSnail(1, 100), BAD_VALUE);
        Checks.sentence(2, "NOT_POSSIBLE if a snail is there");
        Checks.due("setSnail(3, 50)", x.setSnail(3, 50), NOT_POSSIBLE);
        x.takeOff(2);
        Checks.due("setSnail(3, 50), it was taken off", x.setSnail(3, 50), 3);
        x.pass(1);
        Checks.due("setSnail(3, 50), it went on", x.setSnail(3, 50), 4);
        Checks.due("setSnail(5, 50), it rests there", x.setSnail(5, 50), NOT_POSSIBLE);
    }

    private static void setSnailOfFull() {
        Checks.sentence(2, "FULL if 8 were set");
        SnailTrails x = Panes.ofEight();
        Checks.due("setSnail(2, 50), the ninth", x.setSnail(2, 50), FULL);
        Checks.due("undo(), of the eighth", x.undo(), 3);
        Checks.due("setSnail(2, 50), the eighth", x.setSnail(2, 50), 7);
        Checks.due("setSnail(3, 50), the ninth", x.setSnail(3, 50), FULL);
        Checks.due("count(1)", x.count(1), 8);
    }

    private static void takeOff() {
        Checks.sentence(3, "its row");
        for (int row = 0; row <= 18; row++) {
            SnailTrails x = new SnailTrails();
            x.set(3, 50);
            x.setSnail(4, 99);
            if (row > 0) {
                x.pass(row);
            }
            Checks.due("takeOff(0) in the row " + row, x.takeOff(0), row);
            Checks.due("snail(0, 3) in the row " + row, x.snail(0, 3), 2);
            Checks.due("snail(0, 4), it does not end", x.snail(0, 4), NONE);
            Checks.due("cell(4, " + row + ", 3)", x.cell(4, row, 3), NONE);
            Checks.due("count(13)", x.count(13), row > 0 ? 4 : 3);
        }
        Checks.sentence(3, "UNKNOWN");
        SnailTrails x = Panes.ofEachKind();
        Checks.due("takeOff(-1)", x.takeOff(-1), UNKNOWN);
        Checks.due("takeOff(3)", x.takeOff(3), UNKNOWN);
        Checks.sentence(3, "NOT_POSSIBLE if it does not creep");
        Checks.due("takeOff(1), taken off", x.takeOff(1), NOT_POSSIBLE);
        Checks.due("takeOff(2), ended", x.takeOff(2), NOT_POSSIBLE);
        Checks.due("takeOff(0)", x.takeOff(0), 3);
        Checks.due("takeOff(0), just taken off", x.takeOff(0), NOT_POSSIBLE);
    }

    private static void setFrost() {
        Checks.sentence(4, "the previous one");
        SnailTrails x = new SnailTrails();
        for (int frost = 9; frost >= 0; frost--) {
            Checks.due("setFrost(5, 19, " + frost + ")", x.setFrost(5, 19, frost), frost == 9 ? 4 : frost + 1);
        }
        Checks.sentence(4, "UNKNOWN");
        Checks.due("setFrost(6, 0, 5)", x.setFrost(6, 0, 5), UNKNOWN);
        Checks.due("setFrost(0, 20, 5)", x.setFrost(0, 20, 5), UNKNOWN);
        Checks.sentence(4, "BAD_VALUE");
        Checks.due("setFrost(0, 0, -1)", x.setFrost(0, 0, -1), BAD_VALUE);
        Checks.due("setFrost(0, 0, 10)", x.setFrost(0, 0, 10), BAD_VALUE);
        Checks.sentence(4, "NONE if it is so already, and there is no trail");
        Checks.due("setFrost(5, 19, 0)", x.setFrost(5, 19, 0), NONE);
        Checks.due("setFrost(0, 0, 4)", x.setFrost(0, 0, 4), NONE);
        x.setSnail(0, 99);
        Checks.due("setFrost(0, 0, 4) under a snail", x.setFrost(0, 0, 4), NONE);
        x.pass(1);
        Checks.due("setFrost(0, 0, 4) of a trail", x.setFrost(0, 0, 4), 4);
        Checks.due("setFrost(0, 0, 4), the trail is gone", x.setFrost(0, 0, 4), NONE);
        Checks.sentence(4, "Sets the frost of a cell; a trail there is gone.");
        x.pass(1);
        Checks.due("cell(0, 1, 1)", x.cell(0, 1, 1), 0);
        Checks.due("setFrost(0, 1, 9)", x.setFrost(0, 1, 9), 4);
        Checks.due("cell(0, 1, 1)", x.cell(0, 1, 1), NONE);
        Checks.due("cell(0, 1, 2)", x.cell(0, 1, 2), NONE);
        Checks.due("cell(0, 1, 0)", x.cell(0, 1, 0), 9);
    }

    private static void set() {
        Checks.sentence(5, "the previous one");
        SnailTrails x = new SnailTrails();
        int[][] values = {{6, 0, 99}, {2, 1, 9}, {5, 1, 20}, {4, 1, 50}};
        for (int which = 0; which < 4; which++) {
            Checks.due("set(" + which + ", least)", x.set(which, values[which][1]), values[which][0]);
            Checks.due("set(" + which + ", most)", x.set(which, values[which][2]), values[which][1]);
            Checks.due("set(" + which + ", first)", x.set(which, values[which][0]), values[which][2]);
        }
        Checks.sentence(5, "UNKNOWN");
        Checks.due("set(-1, 1)", x.set(-1, 1), UNKNOWN);
        Checks.due("set(4, 1)", x.set(4, 1), UNKNOWN);
        Checks.sentence(5, "BAD_VALUE");
        for (int which = 0; which < 4; which++) {
            Checks.due("set(" + which + ", too small)", x.set(which, values[which][1] - 1), BAD_VALUE);
            Checks.due("set(" + which + ", too large)", x.set(which, values[which][2] + 1), BAD_VALUE);
        }
        Checks.sentence(5, "NONE if it is so already");
        for (int which = 0; which < 4; which++) {
            Checks.due("set(" + which + ", first)", x.set(which, values[which][0]), NONE);
        }
    }

    private static void trailsThatASettingTakes() {
        Checks.sentence(5, "trails that are not fresh by that are gone");
        for (int value = 0; value <= 5; value++) {
            SnailTrails x = new SnailTrails();
            x.setSnail(2, 99);
            x.pass(5);
            Checks.due("count(4)", x.count(4), 5);
            Checks.due("set(0, " + value + ")", x.set(0, value), 6);
            Checks.due("count(4), ages 1 to " + value, x.count(4), value);
            for (int row = 0; row < 5; row++) {
                Checks.due("cell(2, " + row + ", 2) by " + value, x.cell(2, row, 2), 5 - row <= value ? 5 - row : NONE);
            }
        }
    }

    private static void pass() {
        Checks.sentence(6, "how many snails end in them");
        SnailTrails x = new SnailTrails();
        x.set(3, 50);
        for (int lane = 0; lane < 6; lane++) {
            x.setSnail(lane, 95);
        }
        Checks.due("pass(18)", x.pass(18), 0);
        Checks.due("pass(1)", x.pass(1), 6);
        Checks.due("pass(1), they had ended", x.pass(1), 0);
        x.setSnail(0, 0);
        x.setSnail(1, 0);
        x.pass(1);
        x.takeOff(6);
        Checks.due("pass(99), of two one was taken off", x.pass(99), 1);
        Checks.sentence(6, "BAD_VALUE");
        Checks.due("pass(0)", x.pass(0), BAD_VALUE);
        Checks.due("pass(100)", x.pass(100), BAD_VALUE);
    }

    private static void passToTheLastTurn() {
        Checks.sentence(6, "FULL if the turn would be beyond 99999");
        SnailTrails x = Panes.atTurn(99900);
        Checks.due("count(0)", x.count(0), 99900);
        Checks.due("pass(99), to 99999", x.pass(99), 0);
        Checks.due("count(0)", x.count(0), 99999);
        Checks.due("undo()", x.undo(), 3);
        Checks.due("pass(1)", x.pass(1), 0);
        Checks.due("pass(99), to 100000", x.pass(99), FULL);
        Checks.due("count(0)", x.count(0), 99901);
        Checks.due("pass(98), to 99999", x.pass(98), 0);
        Checks.due("pass(1), to 100000", x.pass(1), FULL);
        Checks.due("count(0)", x.count(0), 99999);
    }

    private static void type() {
        Checks.sentence(7, "the length of the text then");
        SnailTrails x = new SnailTrails();
        for (int length = 1; length <= 60; length++) {
            Checks.due("type(), character " + length, x.type('s'), length);
        }
        Checks.sentence(7, "FULL if it has 60 characters");
        Checks.due("type()", x.type('s'), FULL);
        Checks.due("count(14)", x.count(14), 60);
        x.clearText();
        Checks.due("type(), after clearText()", x.type('s'), 1);
    }

    private static void clearText() {
        Checks.sentence(8, "the length that it had");
        SnailTrails x = new SnailTrails();
        Checks.due("clearText() at first", x.clearText(), 0);
        for (int length = 1; length <= 60; length += 59) {
            Checks.write(x, "s".repeat(length));
            Checks.due("clearText()", x.clearText(), length);
            Checks.due("clearText() again", x.clearText(), 0);
            Checks.due("count(14)", x.count(14), 0);
        }
    }

    private static void perform() {
        Checks.sentence(9, "how many things the race has");
        for (int things = 1; things <= 20; things++) {
            Checks.due("perform()", Checks.perform(new SnailTrails(), ".1;".repeat(things - 1) + ".1"), things);
        }
        Checks.sentence(9, "-100 minus the fault of the text if it has one (which is an error)");
        for (int fault = 0; fault < 60; fault++) {
            SnailTrails y = new SnailTrails();
            int place = fault % 3;
            String text = ".1;".repeat(fault / 3) + ".1;".substring(0, place);
            Checks.due("perform() of a fault at " + fault, Checks.perform(y, text + "x"), -100 - fault);
            Checks.due("count(0), nothing was done", y.count(0), 0);
            Checks.due("count(13), nothing is recorded", y.count(13), 0);
        }
        Checks.due("perform() of a fault at 60", Checks.perform(new SnailTrails(), ".1;".repeat(20)), -160);
        Checks.sentence(9, "NOT_POSSIBLE if any is stopped");
        Checks.due("perform(), the first", Checks.perform(new SnailTrails(), "s1*1;s1*1;.1"), NOT_POSSIBLE);
        Checks.due("perform(), the last", Checks.perform(new SnailTrails(), ".1;s1*1;s1*1"), NOT_POSSIBLE);
        SnailTrails z = new SnailTrails();
        String nine = "s0*9;s1*9;s2*9;s3*9;s4*9;s5*9;.1;s0*9;s1*9;s2*9";
        Checks.due("perform(), the ninth snail", Checks.perform(z, nine), NOT_POSSIBLE);
        Checks.due("stopped(0), the ninth snail", z.stopped(0), 9);
        Checks.due("stopped(1), the ninth snail", z.stopped(1), FULL);
        Checks.due("count(1), all of it, or nothing", z.count(1), 0);
        Checks.due("perform(), eight snails", Checks.perform(z, nine.substring(0, 42)), 9);
        Checks.due("count(1), all of it, or nothing", z.count(1), 8);
        SnailTrails late = Panes.atTurn(99997);
        Checks.due("perform(), beyond the last turn", Checks.perform(late, ".1;f0.0=0;.2;.1"), NOT_POSSIBLE);
        Checks.due("stopped(0), beyond the last turn", late.stopped(0), 2);
        Checks.due("stopped(1), beyond the last turn", late.stopped(1), FULL);
        Checks.due("count(0), all of it, or nothing", late.count(0), 99997);
        Checks.due("perform(), to the last turn", Checks.perform(late, ".1;f0.0=0;.1"), 3);
        Checks.due("count(0), to the last turn", late.count(0), 99999);
        Checks.sentence(9, "What would return NONE does not stop it");
        Checks.due("perform()", Checks.perform(new SnailTrails(), "f0.0=4;f0.0=5;f0.0=5"), 3);
    }

    private static void performAllOrNothing() {
        Checks.sentence(9, "all of it, or nothing. This is one act.");
        SnailTrails x = new SnailTrails();
        x.setSnail(2, 50);
        Checks.due("perform()", Checks.perform(x, "s3*9;f0.0=0;.5;s2*9;s2*9"), NOT_POSSIBLE);
        Checks.due("count(0)", x.count(0), 0);
        Checks.due("count(1)", x.count(1), 1);
        Checks.due("count(5)", x.count(5), 480);
        Checks.due("count(13)", x.count(13), 1);
        Checks.due("perform()", Checks.perform(x, "s3*9;f0.0=0;.5;s2*9"), 4);
        Checks.due("count(0)", x.count(0), 5);
        Checks.due("count(1)", x.count(1), 3);
        Checks.due("count(13)", x.count(13), 2);
        Checks.due("undo()", x.undo(), 1);
        Checks.due("count(0)", x.count(0), 0);
        Checks.due("count(1)", x.count(1), 1);
        Checks.due("count(5)", x.count(5), 480);
        Checks.sentence(9, "Does all that the race of the text, which stays, tells");
        Checks.due("count(14)", x.count(14), 19);
        Checks.due("perform() once more", x.perform(), 4);
    }

    private static void stopped() {
        Checks.sentence(10, "NONE if nothing was stopped yet");
        SnailTrails x = new SnailTrails();
        Checks.due("stopped(0)", x.stopped(0), NONE);
        Checks.due("stopped(1)", x.stopped(1), NONE);
        Checks.perform(x, "s1*1;x");
        Checks.due("stopped(0), a fault is no stop", x.stopped(0), NONE);
        Checks.perform(x, "s1*1;f0.0=4;.1");
        Checks.due("stopped(0), nor is NONE", x.stopped(0), NONE);
        Checks.sentence(10, "the number");
        for (int number = 1; number < 15; number++) {
            SnailTrails y = new SnailTrails();
            Checks.perform(y, ".1;".repeat(number - 1) + "s1*0;s1*0");
            Checks.due("stopped(0)", y.stopped(0), number);
            Checks.due("stopped(1)", y.stopped(1), NOT_POSSIBLE);
        }
        SnailTrails y = Panes.ofEight();
        Checks.perform(y, "s3*0");
        Checks.due("stopped(0), the first of the race", y.stopped(0), 0);
        Checks.due("stopped(1)", y.stopped(1), FULL);
        Checks.sentence(10, "Tells of the latest stop of perform() (also if a later one was done).");
        Checks.perform(y, ".1;f0.0=4");
        Checks.due("stopped(0)", y.stopped(0), 0);
        Checks.due("stopped(1)", y.stopped(1), FULL);
        y.takeOff(6);
        Checks.perform(y, ".1;.1;s0*0");
        Checks.due("stopped(0)", y.stopped(0), 2);
        Checks.sentence(10, "BAD_VALUE");
        Checks.due("stopped(-1)", y.stopped(-1), BAD_VALUE);
        Checks.due("stopped(2)", y.stopped(2), BAD_VALUE);
    }

    private static void undo() {
        Checks.sentence(11, "the number of states that are left");
        SnailTrails x = new SnailTrails();
        for (int turn = 0; turn < 5; turn++) {
            x.pass(1);
        }
        for (int left = 3; left >= 0; left--) {
            Checks.due("undo()", x.undo(), left);
            Checks.due("count(13)", x.count(13), left);
        }
        Checks.sentence(11, "NONE if the history is empty");
        Checks.due("undo(), all is undone", x.undo(), NONE);
        Checks.due("count(0), what is dropped stays done", x.count(0), 1);
        Checks.due("undo() of a new object", new SnailTrails().undo(), NONE);
    }

    private static void keep() {
        Checks.sentence(12, "the turn");
        SnailTrails x = new SnailTrails();
        Checks.due("keep()", x.keep(), 0);
        x.pass(99);
        Checks.due("keep()", x.keep(), 99);
        Checks.due("keep() at the last turn", Panes.atTurn(99999).keep(), 99999);
    }

    private static void restore() {
        Checks.sentence(13, "NONE if there is no snapshot");
        SnailTrails x = new SnailTrails();
        x.pass(7);
        Checks.due("restore()", x.restore(), NONE);
        Checks.due("count(0)", x.count(0), 7);
        Checks.sentence(13, "the turn then");
        x.keep();
        x.pass(99);
        Checks.due("restore()", x.restore(), 7);
        Checks.due("count(0)", x.count(0), 7);
        Checks.sentence(13, "Restores the state of the snapshot, which stays. This is an act.");
        Checks.due("count(13)", x.count(13), 3);
        Checks.due("undo()", x.undo(), 2);
        Checks.due("count(0)", x.count(0), 106);
        Checks.due("restore()", x.restore(), 7);
        Checks.due("restore() of what is so", x.restore(), 7);
        Checks.due("count(13)", x.count(13), 4);
        SnailTrails y = new SnailTrails();
        y.keep();
        y.pass(3);
        Checks.due("restore() of the turn 0", y.restore(), 0);
    }
}
