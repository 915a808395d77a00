/** The boundary cases in the Terms: THE PANE, SNAILS and A TURN. */
public final class TermsTest {
    private static final int UNKNOWN = SnailTrails.UNKNOWN;
    private static final int FULL = SnailTrails.FULL;
    private static final int NOT_POSSIBLE = SnailTrails.NOT_POSSIBLE;
    private static final int NONE = SnailTrails.NONE;

    private TermsTest() {
    }

    public static void main(String[] args) {
        lanesAndRows();
        frost();
        ageAsItIsLeft();
        freshness();
        eightSnails();
        noTwoOnOneCell();
        untilTheRim();
        theTurnAtFirst();
        byTheirNumbers();
        threeCells();
        cellsOnThePane();
        cellsWithoutASnail();
        costOfAStep();
        aTrailOfAnother();
        asManyAsTheSetting();
        oneBehindTheOther();
        ownTrail();
        leastCost();
        asMuchSlime();
        theCellThatItLeaves();
        owed();
        rests();
        atMost99();
        trailsGrowOlder();
        frostGrows();
        ranks();
        Checks.end();
    }

    private static void lanesAndRows() {
        Checks.sentence(0, "The pane has 6 lanes, 0 to 5 from left to right, and 20 rows, 0 (below) to 19 (at the upper rim).");
        SnailTrails x = new SnailTrails();
        for (int lane = -1; lane <= 6; lane++) {
            for (int row = -1; row <= 20; row++) {
                boolean isBeside = lane < 0 || lane > 5 || row < 0 || row > 19;
                Checks.due("cell(" + lane + ", " + row + ", 0)", x.cell(lane, row, 0), isBeside ? UNKNOWN : 4);
            }
        }
    }

    private static void frost() {
        Checks.sentence(0, "A cell has frost (0 to 9; 4 at first), and perhaps a trail");
        SnailTrails x = new SnailTrails();
        Checks.due("cell(3, 7, 0) at first", x.cell(3, 7, 0), 4);
        Checks.due("cell(3, 7, 1) at first", x.cell(3, 7, 1), NONE);
        x.setFrost(3, 7, 0);
        x.setFrost(4, 7, 9);
        Checks.due("cell(3, 7, 0)", x.cell(3, 7, 0), 0);
        Checks.due("cell(4, 7, 0)", x.cell(4, 7, 0), 9);
        x.pass(4);
        Checks.due("cell(3, 7, 0), it grew", x.cell(3, 7, 0), 1);
        Checks.due("cell(4, 7, 0), it was 9", x.cell(4, 7, 0), 9);
    }

    /** No call sees the age 0, since a turn ends before it can: the snail behind does, in the same turn. */
    private static void ageAsItIsLeft() {
        Checks.sentence(0, "of a snail, with an age (0 as it is left)");
        SnailTrails x = new SnailTrails();
        x.set(0, 0);
        x.setSnail(2, 99);
        x.pass(1);
        x.setSnail(2, 99);
        x.pass(1);
        Checks.due("snail(1, 2), the trail of age 0 is fresh for the setting 0", x.snail(1, 2), 98);
        Checks.due("owes(1, 0)", x.owes(1, 0), 1);
        Checks.due("count(4), of age 1 it is not", x.count(4), 0);
        SnailTrails y = new SnailTrails();
        y.setSnail(2, 99);
        y.pass(1);
        Checks.due("cell(2, 0, 1)", y.cell(2, 0, 1), 0);
        Checks.due("cell(2, 0, 2) as the turn has ended", y.cell(2, 0, 2), 1);
    }

    private static void freshness() {
        Checks.sentence(0, "A trail is fresh as long as its age is not above the setting 0 (0 to 99; 6 at first).");
        int[] most = {6, 1, 98, 99};
        for (int age : most) {
            SnailTrails x = new SnailTrails();
            x.set(0, age);
            x.setSnail(2, 5);
            x.pass(1);
            x.takeOff(0);
            if (age > 1) {
                x.pass(age - 1);
            }
            Checks.due("cell(2, 0, 2) by the setting " + age, x.cell(2, 0, 2), age);
            Checks.due("cell(2, 0, 1) by the setting " + age, x.cell(2, 0, 1), 0);
            x.pass(1);
            Checks.due("cell(2, 0, 2) a turn later", x.cell(2, 0, 2), NONE);
            Checks.due("cell(2, 0, 1) a turn later", x.cell(2, 0, 1), NONE);
        }
    }

    private static void eightSnails() {
        Checks.sentence(0, "At most 8 snails are set ever, numbered from 0");
        SnailTrails x = new SnailTrails();
        for (int snail = 0; snail < 8; snail++) {
            Checks.due("setSnail(3, 0)", x.setSnail(3, 0), snail);
            Checks.due("takeOff(" + snail + ")", x.takeOff(snail), 0);
        }
        Checks.due("setSnail(3, 0), all are taken off", x.setSnail(3, 0), FULL);
        Checks.due("count(1)", x.count(1), 8);
        SnailTrails y = Panes.ofEight();
        y.pass(99);
        y.pass(99);
        Checks.due("count(3)", y.count(3), 8);
        Checks.due("setSnail(3, 0), all have ended", y.setSnail(3, 0), FULL);
    }

    private static void noTwoOnOneCell() {
        Checks.sentence(0, "each on a cell of the row 0 (no two on one cell)");
        SnailTrails x = new SnailTrails();
        Checks.due("setSnail(3, 0)", x.setSnail(3, 0), 0);
        Checks.due("snail(0, 1)", x.snail(0, 1), 0);
        Checks.due("setSnail(3, 1)", x.setSnail(3, 1), NOT_POSSIBLE);
        Checks.due("setSnail(4, 1)", x.setSnail(4, 1), 1);
        Checks.due("cell(3, 0, 3)", x.cell(3, 0, 3), 0);
        Checks.due("cell(4, 0, 3)", x.cell(4, 0, 3), 1);
    }

    /** Both snails come to the cell (3, 19) in one turn. */
    private static void untilTheRim() {
        Checks.sentence(0, "A snail creeps until it has come to the row 19: then it has ended, and is on the pane no more (its cell is free).");
        SnailTrails x = new SnailTrails();
        x.set(3, 50);
        x.setFrost(3, 19, 0);
        x.setSnail(2, 99);
        x.setSnail(4, 99);
        Checks.due("pass(18)", x.pass(18), 0);
        for (int snail = 0; snail < 2; snail++) {
            Checks.due("snail(" + snail + ", 1), just below the rim", x.snail(snail, 1), 18);
            Checks.due("snail(" + snail + ", 3), just below the rim", x.snail(snail, 3), 0);
        }
        Checks.due("pass(1)", x.pass(1), 2);
        for (int snail = 0; snail < 2; snail++) {
            Checks.due("snail(" + snail + ", 0)", x.snail(snail, 0), 3);
            Checks.due("snail(" + snail + ", 1)", x.snail(snail, 1), 19);
            Checks.due("snail(" + snail + ", 3)", x.snail(snail, 3), 1);
        }
        Checks.due("cell(3, 19, 3)", x.cell(3, 19, 3), NONE);
        Checks.due("cell(3, 19, 1), it leaves no trail there", x.cell(3, 19, 1), NONE);
        x.pass(1);
        Checks.due("snail(0, 5), it creeps no more", x.snail(0, 5), 19);
        Checks.due("snail(0, 7), it rests no more", x.snail(0, 7), 0);
    }

    private static void theTurnAtFirst() {
        Checks.sentence(0, "The turn is 0 at first.");
        Checks.due("count(0)", new SnailTrails().count(0), 0);
    }

    /** Both snails want the cell (3, 1), which costs least. */
    private static void byTheirNumbers() {
        Checks.sentence(0, "In a turn, the snails that creep, by their numbers");
        int[][] lanes = {{2, 4}, {4, 2}};
        for (int[] set : lanes) {
            SnailTrails x = new SnailTrails();
            x.setFrost(3, 1, 0);
            x.setSnail(set[0], 99);
            x.setSnail(set[1], 99);
            x.pass(1);
            Checks.due("snail(0, 0) from the lane " + set[0], x.snail(0, 0), 3);
            Checks.due("snail(1, 0) from the lane " + set[1], x.snail(1, 0), set[1]);
        }
    }

    private static void threeCells() {
        Checks.sentence(0, "A snail looks at three cells of the next row: straight (its lane; step 0), to the left (step 1) and to the right (step 2)");
        SnailTrails x = new SnailTrails();
        for (int lane = 0; lane < 6; lane++) {
            x.setFrost(lane, 1, lane);
        }
        x.setFrost(3, 2, 9);
        x.setSnail(3, 99);
        Checks.due("cost(0, 0)", x.cost(0, 0), 4);
        Checks.due("cost(0, 1)", x.cost(0, 1), 3);
        Checks.due("cost(0, 2)", x.cost(0, 2), 5);
        x.pass(1);
        Checks.due("snail(0, 0)", x.snail(0, 0), 2);
        Checks.due("snail(0, 1)", x.snail(0, 1), 1);
    }

    /** If a lane beside the pane were taken for one at its other side, or in the row below or above, that costs 1. */
    private static void cellsOnThePane() {
        Checks.sentence(0, "those that are on the pane");
        int[][] sides = {{0, 1, 1, 5}, {5, 2, 4, 0}};
        for (int[] side : sides) {
            SnailTrails x = new SnailTrails();
            x.setFrost(side[0], 1, 9);
            for (int row = 0; row < 3; row++) {
                x.setFrost(side[3], row, 0);
            }
            x.setSnail(side[0], 99);
            Checks.due("cost(0, " + side[1] + ") in the lane " + side[0], x.cost(0, side[1]), NONE);
            Checks.due("cost(0, " + (3 - side[1]) + ") in the lane " + side[0], x.cost(0, 3 - side[1]), 5);
            Checks.due("does(0) in the lane " + side[0], x.does(0), 3 - side[1]);
            x.pass(1);
            Checks.due("snail(0, 0) from the lane " + side[0], x.snail(0, 0), side[2]);
        }
    }

    private static void cellsWithoutASnail() {
        Checks.sentence(0, "on which no snail is");
        SnailTrails x = new SnailTrails();
        x.setSnail(2, 99);
        x.pass(1);
        x.setSnail(2, 99);
        Checks.due("cost(1, 0), snail 0 is there", x.cost(1, 0), NONE);
        x.pass(1);
        Checks.due("snail(1, 0), snail 0 had left it in this turn", x.snail(1, 0), 2);
        x.takeOff(0);
        Checks.due("cost(1, 0), snail 0 was taken off there", x.cost(1, 0), 5);
        SnailTrails y = new SnailTrails();
        y.setFrost(2, 1, 0);
        y.setSnail(2, 0);
        y.setSnail(3, 99);
        y.pass(1);
        Checks.due("cell(2, 1, 3)", y.cell(2, 1, 3), 1);
        y.pass(1);
        Checks.due("snail(0, 0), snail 1 leaves it later in this turn", y.snail(0, 0), 1);
        Checks.due("snail(1, 1)", y.snail(1, 1), 2);
    }

    private static void costOfAStep() {
        Checks.sentence(0, "The cost of a step is 1 and the frost of the cell, together.");
        for (int frost = 0; frost <= 9; frost++) {
            SnailTrails x = new SnailTrails();
            for (int lane = 1; lane <= 3; lane++) {
                x.setFrost(lane, 1, frost);
            }
            x.setSnail(2, 99);
            for (int step = 0; step < 3; step++) {
                Checks.due("cost(0, " + step + ") of the frost " + frost, x.cost(0, step), 1 + frost);
            }
            x.pass(1);
            Checks.due("snail(0, 2) of the frost " + frost, x.snail(0, 2), 98 - frost);
        }
    }

    private static void aTrailOfAnother() {
        Checks.sentence(0, "But if the cell has a fresh trail of another snail, the step borrows it: its cost is 1");
        int[] frosts = {9, 0};
        for (int frost : frosts) {
            SnailTrails x = new SnailTrails();
            for (int lane = 1; lane <= 3; lane++) {
                x.setFrost(lane, 1, frost);
            }
            x.setSnail(2, 99);
            x.pass(2);
            x.setSnail(2, 99);
            Checks.due("cost(1, 0) over the frost " + frost, x.cost(1, 0), 1);
            Checks.due("cost(1, 1) beside it", x.cost(1, 1), 1 + frost);
            x.pass(1);
            Checks.due("snail(1, 2)", x.snail(1, 2), 98);
            Checks.due("snail(1, 6), borrowed though it costs 1 anyhow", x.snail(1, 6), 1);
            Checks.due("snail(0, 6)", x.snail(0, 6), 0);
        }
    }

    private static void asManyAsTheSetting() {
        Checks.sentence(0, "as many as the setting 1 tells (1 to 9; 2 at first), all borrowed trails of that same one: then the trail does not help, and the cost is as without it.");
        for (int most = 1; most <= 9; most++) {
            SnailTrails x = Panes.followed(most);
            for (int borrowed = 0; borrowed < most; borrowed++) {
                Checks.due("cost(1, 0) after " + borrowed + " of " + most, x.cost(1, 0), 1);
                x.pass(1);
            }
            Checks.due("snail(1, 2) after " + most, x.snail(1, 2), 99 - most);
            Checks.due("cost(1, 0) after " + most, x.cost(1, 0), 5);
            Checks.due("reason(1, 2, " + (most + 1) + ")", x.reason(1, 2, most + 1), 3);
            x.pass(1);
            Checks.due("snail(1, 2) after the step without it", x.snail(1, 2), 94 - most);
            Checks.due("owes(1, 0) after the step without it", x.owes(1, 0), most);
            Checks.due("cost(1, 0) after the step without it", x.cost(1, 0), 1);
        }
        SnailTrails y = Panes.followed(1);
        y.setFrost(2, 2, 0);
        y.pass(1);
        Checks.due("reason(1, 2, 2), without frost", y.reason(1, 2, 2), 3);
        Checks.due("cost(1, 0), without frost", y.cost(1, 0), 1);
        y.pass(1);
        Checks.due("snail(1, 2), without frost", y.snail(1, 2), 97);
        Checks.due("snail(1, 6), nothing was borrowed for that 1", y.snail(1, 6), 1);
    }

    private static void oneBehindTheOther() {
        Checks.sentence(0, "unless the latest steps of this snail, one behind the other without any other step or a rest between");
        SnailTrails x = Panes.followed(2);
        x.pass(1);
        x.setFrost(2, 2, 4);
        x.pass(2);
        Checks.due("snail(1, 6), borrowed, not, borrowed", x.snail(1, 6), 2);
        Checks.due("snail(1, 9)", x.snail(1, 9), 1);
        Checks.due("cost(1, 0), a step was between", x.cost(1, 0), 1);
        SnailTrails y = new SnailTrails();
        y.set(0, 99);
        y.set(1, 1);
        y.setSnail(2, 99);
        y.pass(2);
        y.setSnail(2, 1);
        y.pass(1);
        Checks.due("snail(1, 2)", y.snail(1, 2), 0);
        Checks.due("reason(1, 2, 2), borrowed just now", y.reason(1, 2, 2), 3);
        y.pass(1);
        Checks.due("snail(1, 7)", y.snail(1, 7), 1);
        Checks.due("reason(1, 2, 2), a rest was between", y.reason(1, 2, 2), 0);
        Checks.due("cost(1, 0), a rest was between", y.cost(1, 0), 1);
    }

    /**
     * A snail goes up in each step, so its own trails are always below it, and no call brings about a step
     * onto one: nearest to that is that reason() tells of them, and that they are not borrowed.
     */
    private static void ownTrail() {
        Checks.sentence(0, "(An own fresh trail is a cost of 1 always, and is not borrowed.)");
        SnailTrails x = new SnailTrails();
        x.setSnail(2, 99);
        x.pass(5);
        for (int row = 0; row < 5; row++) {
            Checks.due("cell(2, " + row + ", 1)", x.cell(2, row, 1), 0);
            Checks.due("reason(0, 2, " + row + ")", x.reason(0, 2, row), 2);
        }
        Checks.due("snail(0, 6)", x.snail(0, 6), 0);
        Checks.due("snail(0, 8)", x.snail(0, 8), NONE);
    }

    private static void leastCost() {
        Checks.sentence(0, "It takes the step with the least cost, of several the one with the least number");
        int[] lanes = {3, 2, 4};
        for (int cheap = 1; cheap < 8; cheap++) {
            SnailTrails x = new SnailTrails();
            for (int step = 0; step < 3; step++) {
                x.setFrost(lanes[step], 1, (cheap >> step & 1) == 1 ? 2 : 3);
            }
            int due = Integer.numberOfTrailingZeros(cheap);
            x.setSnail(3, 99);
            Checks.due("does(0), " + Integer.toBinaryString(cheap) + " are cheap", x.does(0), due);
            x.pass(1);
            Checks.due("snail(0, 0), " + Integer.toBinaryString(cheap) + " are cheap", x.snail(0, 0), lanes[due]);
        }
    }

    private static void asMuchSlime() {
        Checks.sentence(0, "if it has as much slime: its slime is less by the cost");
        for (int frost = 0; frost <= 9; frost++) {
            SnailTrails x = new SnailTrails();
            x.set(2, 1);
            for (int lane = 0; lane < 6; lane++) {
                x.setFrost(lane, 1, frost);
            }
            x.setSnail(2, 1 + frost);
            x.setSnail(4, frost);
            x.setSnail(0, 40 + frost);
            x.pass(1);
            Checks.due("snail(0, 1), as much as the cost " + (1 + frost), x.snail(0, 1), 1);
            Checks.due("snail(0, 2), as much as the cost " + (1 + frost), x.snail(0, 2), 0);
            Checks.due("snail(1, 1), one less", x.snail(1, 1), 0);
            Checks.due("snail(1, 2), one less, and a rest", x.snail(1, 2), 1 + frost);
            Checks.due("snail(2, 1), more than the cost", x.snail(2, 1), 1);
            Checks.due("snail(2, 2), more than the cost", x.snail(2, 2), 39);
        }
    }

    private static void theCellThatItLeaves() {
        Checks.sentence(0, "the cell that it leaves has its trail, with the age 0, in place of any other (its frost stays under it)");
        SnailTrails x = new SnailTrails();
        x.setFrost(2, 0, 7);
        x.setSnail(2, 99);
        x.pass(2);
        Checks.due("cell(2, 0, 2)", x.cell(2, 0, 2), 2);
        x.setSnail(2, 99);
        Checks.due("cell(2, 0, 1), set on a trail", x.cell(2, 0, 1), 0);
        x.pass(1);
        Checks.due("cell(2, 0, 1)", x.cell(2, 0, 1), 1);
        Checks.due("cell(2, 0, 2)", x.cell(2, 0, 2), 1);
        Checks.due("cell(2, 0, 0)", x.cell(2, 0, 0), 7);
        Checks.due("cell(2, 1, 1), it has not left that", x.cell(2, 1, 1), 0);
        Checks.due("count(4), rows 0 to 2", x.count(4), 3);
    }

    private static void owed() {
        Checks.sentence(0, "A step that borrows is owed to the snail whose trail it is.");
        SnailTrails x = Panes.followed(2);
        x.pass(1);
        Checks.due("owes(1, 0)", x.owes(1, 0), 1);
        Checks.due("owes(0, 1)", x.owes(0, 1), 0);
        x.takeOff(0);
        x.pass(1);
        Checks.due("owes(1, 0), to one that was taken off", x.owes(1, 0), 2);
        x.setSnail(2, 99);
        x.pass(1);
        Checks.due("owes(2, 1), the trail that is there", x.owes(2, 1), 1);
        Checks.due("owes(2, 0), the trail in whose place it is", x.owes(2, 0), 0);
    }

    private static void rests() {
        Checks.sentence(0, "If there is no step, or it has too little slime, it rests: its slime is more by the setting 2 (1 to 20; 5 at first)");
        int[] settings = {1, 5, 20};
        for (int more : settings) {
            SnailTrails x = new SnailTrails();
            x.setSnail(0, 5);
            x.setSnail(1, 5);
            x.pass(1);
            x.setSnail(0, 50);
            x.set(2, more);
            x.pass(1);
            Checks.due("snail(0, 2), it had 0", x.snail(0, 2), more);
            Checks.due("snail(0, 7), it had 0", x.snail(0, 7), 1);
            Checks.due("snail(2, 2), it had no step", x.snail(2, 2), 50 + more);
            Checks.due("snail(2, 7), it had no step", x.snail(2, 7), 1);
            Checks.due("snail(2, 1), it had no step", x.snail(2, 1), 0);
            Checks.due("snail(2, 5)", x.snail(2, 5), 0);
            Checks.due("cell(0, 0, 1), a rest leaves no trail of it", x.cell(0, 0, 1), 0);
        }
    }

    private static void atMost99() {
        Checks.sentence(0, "its slime is more by the setting 2 (1 to 20; 5 at first), but 99 at most");
        int[][] slimes = {{93, 5, 98}, {94, 5, 99}, {95, 5, 99}, {99, 5, 99}, {79, 20, 99}, {80, 20, 99}, {98, 1, 99}, {99, 1, 99}};
        for (int[] slime : slimes) {
            SnailTrails x = new SnailTrails();
            x.setSnail(4, 5);
            x.setSnail(5, 5);
            x.pass(1);
            x.setSnail(5, slime[0]);
            x.set(2, slime[1]);
            x.pass(1);
            Checks.due("snail(2, 2) from " + slime[0] + " by " + slime[1], x.snail(2, 2), slime[2]);
            Checks.due("snail(2, 7), it is a rest all the same", x.snail(2, 7), 1);
        }
    }

    private static void trailsGrowOlder() {
        Checks.sentence(0, "Then each trail is older by 1; one that is not fresh any more is gone.");
        SnailTrails x = new SnailTrails();
        x.set(0, 3);
        x.setSnail(2, 99);
        x.setSnail(5, 99);
        x.pass(5);
        for (int row = 0; row < 5; row++) {
            int age = row < 2 ? NONE : 5 - row;
            Checks.due("cell(2, " + row + ", 2)", x.cell(2, row, 2), age);
            Checks.due("cell(5, " + row + ", 2)", x.cell(5, row, 2), age);
            Checks.due("cell(2, " + row + ", 1)", x.cell(2, row, 1), row < 2 ? NONE : 0);
        }
        Checks.due("count(4)", x.count(4), 6);
    }

    private static void frostGrows() {
        Checks.sentence(0, "if it can be divided by the setting 3 (1 to 50; 4 at first), the frost of each cell without a trail is 1 more, but 9 at most.");
        int[] periods = {1, 4, 50};
        for (int period : periods) {
            SnailTrails x = new SnailTrails();
            x.set(3, period);
            for (int turn = 1; turn <= 2 * period + 1; turn++) {
                x.pass(1);
                Checks.due("count(5) of each " + period + " at " + turn, x.count(5), 480 + 120 * (turn / period));
            }
        }
        SnailTrails y = new SnailTrails();
        y.pass(5);
        y.set(3, 3);
        y.pass(1);
        Checks.due("count(5), the turn 6 can be divided by 3", y.count(5), 720);
        y.setFrost(0, 0, 8);
        y.setFrost(5, 19, 9);
        y.set(3, 1);
        y.pass(1);
        Checks.due("cell(0, 0, 0)", y.cell(0, 0, 0), 9);
        Checks.due("cell(5, 19, 0)", y.cell(5, 19, 0), 9);
        y.pass(1);
        Checks.due("cell(0, 0, 0)", y.cell(0, 0, 0), 9);
        SnailTrails z = new SnailTrails();
        z.set(0, 1);
        z.set(3, 2);
        z.setSnail(2, 99);
        z.pass(2);
        Checks.due("cell(2, 0, 0), its trail dried in this turn", z.cell(2, 0, 0), 5);
        Checks.due("cell(2, 1, 0), its trail is fresh", z.cell(2, 1, 0), 4);
        Checks.due("cell(2, 2, 0), under a snail", z.cell(2, 2, 0), 5);
    }

    /** Snail 1 is taken off, snails 2 and 0 end in one turn, and snail 3 after them. */
    private static void ranks() {
        Checks.sentence(0, "Snails that end have ranks, from 1 on, in the order in which they end.");
        SnailTrails x = new SnailTrails();
        x.set(3, 50);
        x.setSnail(0, 94);
        x.setSnail(2, 99);
        x.setSnail(4, 94);
        x.setSnail(5, 99);
        x.takeOff(1);
        x.pass(19);
        Checks.due("snail(3, 4), the first", x.snail(3, 4), 1);
        Checks.due("snail(0, 4)", x.snail(0, 4), NONE);
        x.pass(1);
        Checks.due("snail(0, 4), the lower number first", x.snail(0, 4), 2);
        Checks.due("snail(2, 4)", x.snail(2, 4), 3);
        Checks.due("snail(1, 4), taken off", x.snail(1, 4), NONE);
        x.setSnail(0, 99);
        x.pass(40);
        Checks.due("snail(4, 4), set later", x.snail(4, 4), 4);
        Checks.due("snail(3, 4) stays", x.snail(3, 4), 1);
    }
}
