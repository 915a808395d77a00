/** Each part of the Returns lines, and each boundary case in the argument rows, of the promises 14 to 24. */
public final class ReturnsOfTellsTest {
    private static final int UNKNOWN = SnailTrails.UNKNOWN;
    private static final int BAD_VALUE = SnailTrails.BAD_VALUE;
    private static final int NOT_POSSIBLE = SnailTrails.NOT_POSSIBLE;
    private static final int NONE = SnailTrails.NONE;

    private ReturnsOfTellsTest() {
    }

    public static void main(String[] args) {
        snail();
        theLastOnes();
        ranks();
        theLatestStep();
        cell();
        cellWithoutOne();
        cost();
        does();
        reason();
        endsIn();
        endsInWithin300();
        beyondTheLastTurn();
        wayUp();
        wayUpOfTheRim();
        leader();
        owes();
        bestLane();
        bestLaneOfEight();
        bestLaneWithin300();
        count();
        Checks.end();
    }

    private static void snail() {
        Checks.sentence(14, "the number");
        SnailTrails x = Panes.ofEachKind();
        int[][] due = {{2, 3, 2, 0, NONE, 3, 0, 17, NONE, 0}, {0, 1, 94, 2, NONE, 1, 0, 0, NONE, 0},
            {5, 19, 4, 1, 1, 19, 0, 0, NONE, 0}};
        for (int snail = 0; snail < 3; snail++) {
            for (int what = 0; what < 10; what++) {
                Checks.due("snail(" + snail + ", " + what + ")", x.snail(snail, what), due[snail][what]);
            }
        }
        Checks.sentence(14, "UNKNOWN");
        Checks.due("snail(3, 0)", x.snail(3, 0), UNKNOWN);
        Checks.due("snail(-1, 0)", x.snail(-1, 0), UNKNOWN);
        Checks.due("snail(0, 0) of a pane without snails", new SnailTrails().snail(0, 0), UNKNOWN);
        Checks.due("snail(8, 0) of eight", Panes.ofEight().snail(8, 0), UNKNOWN);
        Checks.due("snail(7, 0) of eight", Panes.ofEight().snail(7, 0), 1);
        Checks.sentence(14, "BAD_VALUE");
        Checks.due("snail(0, 10)", x.snail(0, 10), BAD_VALUE);
        Checks.due("snail(0, -1)", x.snail(0, -1), BAD_VALUE);
    }

    private static void theLastOnes() {
        Checks.sentence(14, "0 for its lane, 1 for its row (for both the last ones, if it does not creep any more)");
        SnailTrails x = Panes.ofEachKind();
        x.pass(99);
        Checks.due("snail(1, 0), taken off", x.snail(1, 0), 0);
        Checks.due("snail(1, 1), taken off", x.snail(1, 1), 1);
        Checks.due("snail(2, 0), ended", x.snail(2, 0), 5);
        Checks.due("snail(2, 1), ended", x.snail(2, 1), 19);
        Checks.due("snail(1, 7), it rests no more", x.snail(1, 7), 0);
        Checks.due("snail(2, 2), its slime stays", x.snail(2, 2), 4);
    }

    private static void ranks() {
        Checks.sentence(14, "4 for its rank (NONE if it has not ended)");
        SnailTrails x = Panes.ofEachKind();
        Checks.due("snail(0, 4), it creeps", x.snail(0, 4), NONE);
        Checks.due("snail(1, 4), it was taken off", x.snail(1, 4), NONE);
        Checks.due("snail(2, 4), it has ended", x.snail(2, 4), 1);
        SnailTrails y = Panes.ofEight();
        y.pass(99);
        y.pass(99);
        int ranks = 0;
        for (int snail = 0; snail < 8; snail++) {
            Checks.holds("snail(" + snail + ", 4) is 1 to 8", y.snail(snail, 4) >= 1 && y.snail(snail, 4) <= 8);
            ranks |= 1 << y.snail(snail, 4);
        }
        Checks.due("all ranks of eight, as bits", ranks, 0b111111110);
    }

    private static void theLatestStep() {
        Checks.sentence(14, "(NONE if that borrowed none, or it rested since, or has not crept yet)");
        SnailTrails x = Panes.followed(2);
        Checks.due("snail(1, 8), it has not crept yet", x.snail(1, 8), NONE);
        Checks.due("snail(0, 8), that borrowed none", x.snail(0, 8), NONE);
        x.pass(1);
        Checks.due("snail(1, 8), that borrowed", x.snail(1, 8), 0);
        x.pass(2);
        Checks.due("snail(1, 8), the latest borrowed none", x.snail(1, 8), NONE);
        Checks.sentence(14, "9 for how many of its latest steps, one behind the other, borrowed from that one");
        int[] due = {0, 1, 2, 3, 0, 1};
        SnailTrails y = Panes.followed(3);
        for (int steps = 0; steps < due.length; steps++) {
            Checks.due("snail(1, 9) after " + steps + " steps", y.snail(1, 9), due[steps]);
            y.pass(1);
        }
        SnailTrails z = new SnailTrails();
        z.set(0, 99);
        z.set(1, 9);
        z.setSnail(2, 99);
        z.pass(4);
        z.setSnail(2, 1);
        z.setFrost(2, 2, 9);
        z.pass(1);
        Checks.due("snail(1, 9), one step", z.snail(1, 9), 1);
        Checks.due("snail(1, 8), one step", z.snail(1, 8), 0);
        z.pass(1);
        Checks.due("snail(1, 7), a rest", z.snail(1, 7), 1);
        Checks.due("snail(1, 8), it rested since", z.snail(1, 8), NONE);
        Checks.due("snail(1, 9), it rested since", z.snail(1, 9), 0);
    }

    private static void cell() {
        Checks.sentence(15, "the number");
        SnailTrails x = Panes.ofEachKind();
        int[][] due = {{5, 18, 4, 2, 1, NONE}, {5, 13, 4, 2, 6, NONE}, {2, 3, 4, NONE, NONE, 0}, {2, 2, 4, 0, 3, NONE}};
        for (int[] cell : due) {
            for (int what = 0; what < 4; what++) {
                Checks.due("cell(" + cell[0] + ", " + cell[1] + ", " + what + ")", x.cell(cell[0], cell[1], what), cell[2 + what]);
            }
        }
        Checks.sentence(15, "UNKNOWN");
        Checks.due("cell(-1, 0, 0)", x.cell(-1, 0, 0), UNKNOWN);
        Checks.due("cell(6, 0, 0)", x.cell(6, 0, 0), UNKNOWN);
        Checks.due("cell(0, -1, 0)", x.cell(0, -1, 0), UNKNOWN);
        Checks.due("cell(0, 20, 0)", x.cell(0, 20, 0), UNKNOWN);
        Checks.sentence(15, "BAD_VALUE");
        Checks.due("cell(0, 0, -1)", x.cell(0, 0, -1), BAD_VALUE);
        Checks.due("cell(0, 0, 4)", x.cell(0, 0, 4), BAD_VALUE);
    }

    private static void cellWithoutOne() {
        Checks.sentence(15, "1 for the snail of its trail (NONE without one), 2 for the age of the trail (NONE without one), 3 for the snail that is there (NONE without one)");
        SnailTrails x = Panes.ofEachKind();
        int[][] cells = {{0, 1}, {5, 19}, {5, 12}, {3, 3}};
        for (int[] cell : cells) {
            for (int what = 1; what < 4; what++) {
                Checks.due("cell(" + cell[0] + ", " + cell[1] + ", " + what + ")", x.cell(cell[0], cell[1], what), NONE);
            }
        }
        SnailTrails y = new SnailTrails();
        y.setSnail(0, 9);
        Checks.due("cell(0, 0, 3), the snail 0", y.cell(0, 0, 3), 0);
        Checks.due("cell(0, 0, 1), it has left no trail yet", y.cell(0, 0, 1), NONE);
        Checks.due("cell(0, 0, 2), it has left no trail yet", y.cell(0, 0, 2), NONE);
        y.pass(1);
        Checks.due("cell(0, 0, 1), of the snail 0", y.cell(0, 0, 1), 0);
        Checks.due("cell(0, 0, 3), it has left", y.cell(0, 0, 3), NONE);
    }

    private static void cost() {
        Checks.sentence(16, "the cost");
        SnailTrails x = Panes.followed(2);
        x.setFrost(1, 1, 0);
        x.setFrost(3, 1, 9);
        Checks.due("cost(1, 0), a trail", x.cost(1, 0), 1);
        Checks.due("cost(1, 1), no frost", x.cost(1, 1), 1);
        Checks.due("cost(1, 2), all frost", x.cost(1, 2), 10);
        Checks.due("cost(0, 0)", x.cost(0, 0), 5);
        SnailTrails y = new SnailTrails();
        y.setSnail(2, 0);
        Checks.due("cost(0, 0), more than its slime", y.cost(0, 0), 5);
        Checks.sentence(16, "UNKNOWN");
        Checks.due("cost(2, 0)", x.cost(2, 0), UNKNOWN);
        Checks.due("cost(-1, 0)", x.cost(-1, 0), UNKNOWN);
        Checks.sentence(16, "BAD_VALUE");
        Checks.due("cost(0, 3)", x.cost(0, 3), BAD_VALUE);
        Checks.due("cost(0, -1)", x.cost(0, -1), BAD_VALUE);
        Checks.sentence(16, "NOT_POSSIBLE if the snail does not creep");
        SnailTrails z = Panes.ofEachKind();
        for (int step = 0; step < 3; step++) {
            Checks.due("cost(1, " + step + "), taken off", z.cost(1, step), NOT_POSSIBLE);
            Checks.due("cost(2, " + step + "), ended", z.cost(2, step), NOT_POSSIBLE);
        }
        Checks.sentence(16, "NONE if there is no such step");
        x.setSnail(0, 99);
        x.setSnail(5, 99);
        Checks.due("cost(2, 1), off the pane", x.cost(2, 1), NONE);
        Checks.due("cost(3, 2), off the pane", x.cost(3, 2), NONE);
        Checks.due("cost(2, 0)", x.cost(2, 0), 5);
        y.takeOff(0);
        y.setSnail(2, 99);
        y.pass(1);
        y.setSnail(1, 99);
        y.setSnail(2, 99);
        y.setSnail(3, 99);
        Checks.due("cost(2, 2), a snail is there", y.cost(2, 2), NONE);
        Checks.due("cost(3, 0), a snail is there", y.cost(3, 0), NONE);
        Checks.due("cost(4, 1), a snail is there", y.cost(4, 1), NONE);
    }

    private static void does() {
        Checks.sentence(17, "the step 0 to 2");
        int[] lanes = {3, 2, 4};
        for (int step = 0; step < 3; step++) {
            SnailTrails x = new SnailTrails();
            x.setFrost(lanes[step], 1, 3);
            x.setSnail(3, 4);
            Checks.due("does(0), its slime is just the cost", x.does(0), step);
        }
        Checks.sentence(17, "3 if it would rest for want of slime, 4 if there is no step");
        SnailTrails x = new SnailTrails();
        x.setSnail(0, 4);
        Checks.due("does(0), one less than the cost", x.does(0), 3);
        SnailTrails y = new SnailTrails();
        y.setSnail(0, 5);
        y.setSnail(1, 5);
        y.pass(1);
        y.setSnail(0, 99);
        Checks.due("does(2), it has slime, but no step", y.does(2), 4);
        y.undo();
        y.setSnail(0, 0);
        Checks.due("does(2), it has neither", y.does(2), 4);
        y.takeOff(1);
        Checks.due("does(2), it has a step", y.does(2), 3);
        Checks.sentence(17, "UNKNOWN");
        Checks.due("does(3)", y.does(3), UNKNOWN);
        Checks.due("does(-1)", y.does(-1), UNKNOWN);
        Checks.sentence(17, "NOT_POSSIBLE if it does not creep");
        SnailTrails z = Panes.ofEachKind();
        Checks.due("does(1), taken off", z.does(1), NOT_POSSIBLE);
        Checks.due("does(2), ended", z.does(2), NOT_POSSIBLE);
    }

    /** The three reasons rule one another out: nobody borrows from himself. */
    private static void reason() {
        Checks.sentence(18, "0 if it does, as one that is borrowed");
        SnailTrails x = Panes.followed(1);
        Checks.due("reason(1, 2, 1)", x.reason(1, 2, 1), 0);
        Checks.due("reason(1, 2, 0), below the snail itself", x.reason(1, 2, 0), 0);
        Checks.sentence(18, "the first that holds: 1 there is no trail, 2 it is the snail's own, 3 the snail borrowed from that one too often just now");
        Checks.due("reason(1, 2, 2), no trail, but a snail", x.reason(1, 2, 2), 1);
        Checks.due("reason(1, 5, 19), no trail", x.reason(1, 5, 19), 1);
        Checks.due("reason(0, 2, 1), its own", x.reason(0, 2, 1), 2);
        x.pass(1);
        Checks.due("reason(1, 2, 2), too often", x.reason(1, 2, 2), 3);
        Checks.due("reason(1, 2, 0), its own", x.reason(1, 2, 0), 2);
        Checks.due("reason(1, 2, 4), no trail there", x.reason(1, 2, 4), 1);
        x.set(1, 2);
        Checks.due("reason(1, 2, 2), once of two", x.reason(1, 2, 2), 0);
        x.set(1, 1);
        x.pass(1);
        Checks.due("reason(1, 2, 3), not just now", x.reason(1, 2, 3), 0);
        x.takeOff(1);
        Checks.due("reason(1, 2, 3), the snail was taken off", x.reason(1, 2, 3), 0);
        x.pass(99);
        Checks.due("reason(0, 2, 18), the snail has ended", x.reason(0, 2, 18), 2);
        Checks.due("reason(1, 2, 18), the snail was taken off", x.reason(1, 2, 18), 0);
        SnailTrails y = Panes.followed(2);
        y.pass(4);
        Checks.due("snail(1, 6)", y.snail(1, 6), 3);
        Checks.due("reason(1, 2, 5), three in all, but one just now", y.reason(1, 2, 5), 0);
        y.pass(1);
        Checks.due("reason(1, 2, 6), two just now", y.reason(1, 2, 6), 3);
        Checks.sentence(18, "UNKNOWN (snail or cell)");
        Checks.due("reason(2, 0, 0)", x.reason(2, 0, 0), UNKNOWN);
        Checks.due("reason(-1, 0, 0)", x.reason(-1, 0, 0), UNKNOWN);
        Checks.due("reason(0, 6, 0)", x.reason(0, 6, 0), UNKNOWN);
        Checks.due("reason(0, 0, 20)", x.reason(0, 0, 20), UNKNOWN);
    }

    private static void endsIn() {
        Checks.sentence(19, "how many, 0 if it has ended");
        SnailTrails x = new SnailTrails();
        x.set(3, 50);
        x.setSnail(2, 95);
        for (int turns = 19; turns > 0; turns--) {
            Checks.due("endsIn(0)", x.endsIn(0), turns);
            x.pass(1);
        }
        Checks.due("endsIn(0), it has ended", x.endsIn(0), 0);
        x.pass(99);
        Checks.due("endsIn(0), long ago", x.endsIn(0), 0);
        Checks.sentence(19, "UNKNOWN");
        Checks.due("endsIn(1)", x.endsIn(1), UNKNOWN);
        Checks.due("endsIn(-1)", x.endsIn(-1), UNKNOWN);
        Checks.sentence(19, "NOT_POSSIBLE if it was taken off");
        x.setSnail(2, 99);
        x.takeOff(1);
        Checks.due("endsIn(1)", x.endsIn(1), NOT_POSSIBLE);
        x.pass(99);
        Checks.due("endsIn(1), long ago", x.endsIn(1), NOT_POSSIBLE);
    }

    /** The slowest pane that was found: all frost is 9, a rest brings 1, and others are in the way. */
    private static SnailTrails slowest() {
        SnailTrails x = new SnailTrails();
        x.set(2, 1);
        x.set(3, 1);
        x.pass(5);
        x.setSnail(4, 9);
        x.setSnail(3, 0);
        x.setSnail(5, 0);
        x.pass(2);
        x.setSnail(4, 0);
        x.setSnail(2, 0);
        x.setSnail(1, 0);
        return x;
    }

    /**
     * No calls are known that bring NONE about: a snail alone takes 19 times ten rests and a step, 209
     * turns, at most, and one that waits behind others gains slime meanwhile. Nearest to it are these 210.
     */
    private static void endsInWithin300() {
        Checks.sentence(19, "NONE if that is not within 300");
        SnailTrails x = slowest();
        x.setSnail(0, 0);
        Checks.due("endsIn(6)", x.endsIn(6), 210);
        x.pass(99);
        x.pass(99);
        Checks.due("endsIn(6)", x.endsIn(6), 12);
        x.pass(11);
        Checks.due("snail(6, 3)", x.snail(6, 3), 0);
        Checks.due("endsIn(6)", x.endsIn(6), 1);
        Checks.due("pass(1)", x.pass(1), 1);
        Checks.due("endsIn(6)", x.endsIn(6), 0);
    }

    /** 19 steps of 10 with slime 99 want 19 rests of 5. Only pass() is bound to the last turn. */
    private static void beyondTheLastTurn() {
        Checks.sentence(19, "Tells in how many turns a snail ends, if nothing else is done.");
        SnailTrails x = Panes.atTurn(99999);
        x.setSnail(3, 99);
        Checks.due("endsIn(0) at the turn 99999", x.endsIn(0), 38);
        x.takeOff(0);
        Checks.sentence(23, "would end first, if nothing else was done");
        Checks.due("bestLane(99, 0) at the turn 99999", x.bestLane(99, 0), 0);
        Checks.due("bestLane(99, 1) at the turn 99999", x.bestLane(99, 1), 38);
    }

    private static void bothWays(SnailTrails x, int lane, int row, int due) {
        Checks.due("wayUp(" + lane + ", " + row + ", 0)", x.wayUp(lane, row, 0), due);
        Checks.due("wayUp(" + lane + ", " + row + ", 1)", x.wayUp(lane, row, 1), due);
    }

    private static void wayUp() {
        Checks.sentence(20, "the sum, 0 in the row 19");
        SnailTrails x = new SnailTrails();
        for (int row = 19; row >= 0; row--) {
            bothWays(x, 0, row, 5 * (19 - row));
            bothWays(x, 5, row, 5 * (19 - row));
        }
        SnailTrails y = new SnailTrails();
        y.set(3, 1);
        y.pass(5);
        bothWays(y, 3, 0, 190);
        y.setFrost(0, 19, 0);
        bothWays(y, 0, 18, 1);
        bothWays(y, 1, 18, 1);
        bothWays(y, 2, 18, 10);
        bothWays(y, 5, 18, 10);
        bothWays(y, 5, 14, 41);
        bothWays(y, 5, 15, 40);
        y.setFrost(5, 19, 1);
        bothWays(y, 4, 18, 2);
        bothWays(y, 5, 18, 2);
        bothWays(y, 3, 18, 10);
        Checks.sentence(20, "UNKNOWN");
        Checks.due("wayUp(6, 0, 0)", new SnailTrails().wayUp(6, 0, 0), UNKNOWN);
        Checks.due("wayUp(0, -1, 1)", new SnailTrails().wayUp(0, -1, 1), UNKNOWN);
        Checks.sentence(20, "BAD_VALUE");
        Checks.due("wayUp(0, 0, 2)", new SnailTrails().wayUp(0, 0, 2), BAD_VALUE);
        Checks.due("wayUp(0, 0, -1)", new SnailTrails().wayUp(0, 0, -1), BAD_VALUE);
    }

    private static void wayUpOfTheRim() {
        Checks.sentence(20, "where the way begins (its own cell costs nothing)");
        SnailTrails x = new SnailTrails();
        for (int lane = 0; lane < 6; lane++) {
            x.setFrost(lane, 19, 9);
            x.setFrost(lane, 18, 9);
            bothWays(x, lane, 19, 0);
        }
        bothWays(x, 3, 18, 10);
        bothWays(x, 3, 17, 20);
        Checks.sentence(20, "without trails and snails");
        SnailTrails y = new SnailTrails();
        y.setSnail(1, 99);
        y.setSnail(2, 99);
        y.setSnail(3, 99);
        y.pass(3);
        bothWays(y, 2, 0, 95);
        bothWays(y, 2, 2, 85);
    }

    private static void leader() {
        Checks.sentence(21, "NONE if none creeps");
        SnailTrails x = new SnailTrails();
        Checks.due("leader() of a pane without snails", x.leader(), NONE);
        x.setSnail(3, 99);
        x.takeOff(0);
        Checks.due("leader(), it was taken off", x.leader(), NONE);
        x.setSnail(3, 99);
        x.pass(99);
        Checks.due("leader(), it has ended", x.leader(), NONE);
        Checks.sentence(21, "the snail");
        x.setSnail(0, 0);
        Checks.due("leader(), slime 0 in the row 0", x.leader(), 2);
        Checks.sentence(21, "of those that creep the one in the highest row, of several the one with the most slime, of several the lowest");
        SnailTrails y = new SnailTrails();
        y.setSnail(0, 98);
        y.setSnail(2, 99);
        y.setSnail(4, 99);
        Checks.due("leader(), of two with 99 the lowest", y.leader(), 1);
        y.takeOff(1);
        Checks.due("leader(), the other one with 99", y.leader(), 2);
        y.takeOff(2);
        Checks.due("leader(), the one with 98", y.leader(), 0);
        y.pass(1);
        y.setSnail(2, 99);
        Checks.due("leader(), the higher row before more slime", y.leader(), 0);
    }

    private static void owes() {
        Checks.sentence(22, "how often");
        SnailTrails x = Panes.followed(9);
        for (int steps = 0; steps <= 9; steps++) {
            Checks.due("owes(1, 0) after " + steps + " steps", x.owes(1, 0), steps);
            x.pass(1);
        }
        Checks.due("owes(1, 0), the tenth was too often", x.owes(1, 0), 9);
        Checks.due("owes(0, 1)", x.owes(0, 1), 0);
        Checks.sentence(22, "UNKNOWN (snail or other)");
        Checks.due("owes(2, 0)", x.owes(2, 0), UNKNOWN);
        Checks.due("owes(0, 2)", x.owes(0, 2), UNKNOWN);
        Checks.due("owes(-1, 0)", x.owes(-1, 0), UNKNOWN);
        Checks.due("owes(0, -1)", x.owes(0, -1), UNKNOWN);
        Checks.sentence(22, "BAD_VALUE if both are the same");
        Checks.due("owes(0, 0)", x.owes(0, 0), BAD_VALUE);
        Checks.due("owes(1, 1)", x.owes(1, 1), BAD_VALUE);
    }

    private static void bestLane() {
        Checks.sentence(23, "the number");
        SnailTrails x = new SnailTrails();
        x.set(3, 50);
        for (int lane = 5; lane >= 0; lane--) {
            x.setFrost(lane, 1, 0);
            int due = Math.max(lane - 1, 0);
            Checks.due("bestLane(91, 0), the lane " + lane + " is without frost", x.bestLane(91, 0), due);
            Checks.due("bestLane(91, 1), the lane " + lane + " is without frost", x.bestLane(91, 1), 19);
            Checks.due("bestLane(90, 1), one less", x.bestLane(90, 1), 20);
        }
        Checks.sentence(23, "of several the lowest");
        Checks.due("bestLane(99, 0), all alike", new SnailTrails().bestLane(99, 0), 0);
        x.setSnail(0, 0);
        Checks.due("bestLane(91, 0), the lane 0 is not free", x.bestLane(91, 0), 1);
        Checks.sentence(23, "BAD_VALUE");
        Checks.due("bestLane(-1, 0)", x.bestLane(-1, 0), BAD_VALUE);
        Checks.due("bestLane(100, 0)", x.bestLane(100, 0), BAD_VALUE);
        Checks.due("bestLane(0, 2)", x.bestLane(0, 2), BAD_VALUE);
        Checks.due("bestLane(0, -1)", x.bestLane(0, -1), BAD_VALUE);
    }

    private static void bestLaneOfEight() {
        Checks.sentence(23, "(how many were set does not matter)");
        SnailTrails x = Panes.ofEight();
        int lane = x.bestLane(99, 0);
        int turns = x.bestLane(99, 1);
        Checks.holds("bestLane(99, 0) is a free lane: " + lane, lane >= 2 && lane <= 5);
        Checks.holds("bestLane(99, 1) is in sight: " + turns, turns >= 19 && turns <= 300);
        Checks.due("count(1)", x.count(1), 8);
        SnailTrails y = new SnailTrails();
        for (int snail = 0; snail < 8; snail++) {
            y.setSnail(3, 0);
            y.takeOff(snail);
        }
        Checks.due("bestLane(95, 1), eight were taken off", y.bestLane(95, 1), new SnailTrails().bestLane(95, 1));
    }

    private static void bestLaneWithin300() {
        Checks.sentence(23, "NONE if it would not end within 300 turns in any free lane");
        SnailTrails x = new SnailTrails();
        for (int lane = 0; lane < 5; lane++) {
            x.setSnail(lane, 0);
        }
        Checks.due("bestLane(99, 0), the last free lane", x.bestLane(99, 0), 5);
        x.setSnail(5, 0);
        Checks.due("bestLane(99, 0), no lane is free", x.bestLane(99, 0), NONE);
        Checks.due("bestLane(99, 1), no lane is free", x.bestLane(99, 1), NONE);
        x.takeOff(3);
        Checks.due("bestLane(99, 0), one is free again", x.bestLane(99, 0), 3);
        SnailTrails y = slowest();
        Checks.due("bestLane(0, 0), the slowest pane", y.bestLane(0, 0), 0);
        Checks.due("bestLane(0, 1), the slowest pane", y.bestLane(0, 1), 210);
    }

    private static void count() {
        Checks.sentence(24, "the number");
        SnailTrails x = Panes.ofEachKind();
        x.type('s');
        int[] due = {20, 3, 1, 1, 7, 480, 23, 0, 17, 6, 2, 1, 50, 4, 1};
        for (int what = 0; what < due.length; what++) {
            Checks.due("count(" + what + ")", x.count(what), due[what]);
        }
        Checks.sentence(24, "BAD_VALUE");
        Checks.due("count(-1)", x.count(-1), BAD_VALUE);
        Checks.due("count(15)", x.count(15), BAD_VALUE);
        Checks.sentence(24, "0 for the turn, 1 for snails, 2 for those that creep, 3 for those that have ended, 4 for cells with a trail, 5 for all frost");
        SnailTrails y = new SnailTrails();
        y.set(3, 1);
        y.pass(99);
        Checks.due("count(5), all frost is 9", y.count(5), 1080);
        Panes.passTo(y, 99999);
        Checks.due("count(0), the last turn", y.count(0), 99999);
        SnailTrails z = Panes.ofEight();
        Checks.due("count(1), eight snails", z.count(1), 8);
        Checks.due("count(2), eight snails", z.count(2), 8);
        z.takeOff(0);
        z.pass(99);
        z.pass(99);
        Checks.due("count(1), all are counted", z.count(1), 8);
        Checks.due("count(2), none creeps", z.count(2), 0);
        Checks.due("count(3), but for the one that was taken off", z.count(3), 7);
        Checks.due("count(4), all are dry", z.count(4), 0);
    }
}
