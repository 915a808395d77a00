/** Promise 6, and what a turn does to snails, trails and frost (THE PANE, SNAILS, A TURN). */
public final class TurnTest {
    private static final int BAD_VALUE = SnailTrails.BAD_VALUE;
    private static final int FULL = SnailTrails.FULL;
    private static final int NOT_POSSIBLE = SnailTrails.NOT_POSSIBLE;
    private static final int NONE = SnailTrails.NONE;

    private TurnTest() {
    }

    public static void main(String[] args) {
        passRefuses();
        passUpToTheLastTurn();
        theStepWithTheLeastCost();
        ofEqualCostsTheLeastNumber();
        restsForWantOfSlime();
        restsWithoutAStep();
        snailsGoByTheirNumbers();
        trailsDry();
        trailsOfTheFirstCell();
        trailsOfNoAge();
        aTrailInPlaceOfAnother();
        frostGrows();
        borrowsSoManyTimes();
        aRestBreaksTheRow();
        anotherLenderBreaksTheRow();
        ends();
        Checks.end();
    }

    private static void passRefuses() {
        SnailTrails x = new SnailTrails();
        int[] wrong = {0, -1, 100, Integer.MIN_VALUE, Integer.MAX_VALUE};
        for (int turns : wrong) {
            Checks.due("6: pass(" + turns + ")", x.pass(turns), BAD_VALUE);
        }
        Checks.due("6: count(0)", x.count(0), 0);
        Checks.due("6: count(13)", x.count(13), 0);
        Checks.due("6: pass(1)", x.pass(1), 0);
        Checks.due("6: pass(99)", x.pass(99), 0);
        Checks.due("6: count(0)", x.count(0), 100);
        Checks.due("6: count(13)", x.count(13), 2);
    }

    private static void passUpToTheLastTurn() {
        SnailTrails x = Panes.atTurn(99990);
        Checks.due("6: count(0)", x.count(0), 99990);
        Checks.due("6: pass(10), beyond", x.pass(10), FULL);
        Checks.due("6: pass(100), BAD_VALUE first", x.pass(100), BAD_VALUE);
        Checks.due("6: pass(8)", x.pass(8), 0);
        Checks.due("9: perform() beyond", Checks.perform(x, "s0*1;.1;.1"), NOT_POSSIBLE);
        Checks.due("10: stopped(0)", x.stopped(0), 2);
        Checks.due("10: stopped(1)", x.stopped(1), FULL);
        Checks.due("9: count(0)", x.count(0), 99998);
        Checks.due("6: pass(1)", x.pass(1), 0);
        Checks.due("6: count(0)", x.count(0), 99999);
        Checks.due("6: pass(1)", x.pass(1), FULL);
        Checks.due("6: count(0)", x.count(0), 99999);
        x.setSnail(3, 99);
        Checks.holds("19: endsIn(0) looks beyond the last turn", x.endsIn(0) > 0);
        Checks.holds("23: bestLane(9, 1) looks beyond the last turn", x.bestLane(9, 1) > 0);
    }

    private static void theStepWithTheLeastCost() {
        SnailTrails x = new SnailTrails();
        x.setSnail(3, 50);
        x.setFrost(3, 1, 2);
        x.setFrost(2, 1, 1);
        x.setFrost(4, 1, 0);
        x.pass(1);
        Checks.due("6: snail(0, 0) to the right", x.snail(0, 0), 4);
        Checks.due("6: snail(0, 1)", x.snail(0, 1), 1);
        Checks.due("6: snail(0, 2)", x.snail(0, 2), 49);
        Checks.due("6: snail(0, 5)", x.snail(0, 5), 1);
        x.setFrost(3, 2, 1);
        x.pass(1);
        Checks.due("6: snail(0, 0) to the left", x.snail(0, 0), 3);
        Checks.due("6: snail(0, 2)", x.snail(0, 2), 47);
        Checks.due("6: cell(4, 1, 1)", x.cell(4, 1, 1), 0);
        x.setFrost(3, 3, 3);
        x.pass(1);
        Checks.due("6: snail(0, 0) straight", x.snail(0, 0), 3);
        Checks.due("6: snail(0, 2)", x.snail(0, 2), 43);
    }

    private static void ofEqualCostsTheLeastNumber() {
        SnailTrails x = new SnailTrails();
        x.setSnail(3, 99);
        x.pass(1);
        Checks.due("6: snail(0, 0) straight", x.snail(0, 0), 3);
        x.setFrost(3, 2, 5);
        x.pass(1);
        Checks.due("6: snail(0, 0) left before right", x.snail(0, 0), 2);
        SnailTrails y = new SnailTrails();
        y.setSnail(0, 99);
        y.setSnail(5, 99);
        y.setFrost(0, 1, 9);
        y.setFrost(5, 1, 9);
        y.pass(1);
        Checks.due("6: snail(0, 0) nothing left of lane 0", y.snail(0, 0), 1);
        Checks.due("6: snail(1, 0) nothing right of lane 5", y.snail(1, 0), 4);
    }

    private static void restsForWantOfSlime() {
        SnailTrails x = new SnailTrails();
        x.setSnail(3, 4);
        x.pass(1);
        Checks.due("6: snail(0, 1) it needs 5", x.snail(0, 1), 0);
        Checks.due("6: snail(0, 2)", x.snail(0, 2), 9);
        Checks.due("6: snail(0, 7)", x.snail(0, 7), 1);
        Checks.due("6: snail(0, 5)", x.snail(0, 5), 0);
        Checks.due("6: count(4) no trail of a rest", x.count(4), 0);
        x.pass(1);
        Checks.due("6: snail(0, 1)", x.snail(0, 1), 1);
        Checks.due("6: snail(0, 2)", x.snail(0, 2), 4);
        x.set(2, 20);
        x.pass(1);
        Checks.due("6: snail(0, 2) by the setting 2", x.snail(0, 2), 24);
        SnailTrails y = new SnailTrails();
        y.setSnail(3, 5);
        y.pass(1);
        Checks.due("6: snail(0, 1) just enough", y.snail(0, 1), 1);
        Checks.due("6: snail(0, 2)", y.snail(0, 2), 0);
    }

    private static void restsWithoutAStep() {
        SnailTrails x = new SnailTrails();
        x.setSnail(0, 5);
        x.setSnail(1, 5);
        x.pass(1);
        x.setSnail(0, 96);
        Checks.due("17: does(2) it has no step", x.does(2), 4);
        x.pass(1);
        Checks.due("6: snail(2, 1)", x.snail(2, 1), 0);
        Checks.due("6: snail(2, 2) 99 at most", x.snail(2, 2), 99);
        Checks.due("6: snail(2, 7)", x.snail(2, 7), 1);
        Checks.due("6: count(8)", x.count(8), 3);
        x.pass(1);
        Checks.due("6: snail(0, 1)", x.snail(0, 1), 2);
        Checks.due("6: snail(2, 1) in its place", x.snail(2, 1), 1);
        Checks.due("6: snail(2, 2) by its trail", x.snail(2, 2), 98);
        Checks.due("22: owes(2, 0)", x.owes(2, 0), 1);
    }

    private static void snailsGoByTheirNumbers() {
        SnailTrails x = new SnailTrails();
        x.setSnail(2, 99);
        x.setSnail(4, 99);
        x.setFrost(3, 1, 0);
        x.pass(1);
        Checks.due("6: snail(0, 0) came first", x.snail(0, 0), 3);
        Checks.due("6: snail(1, 0) found it taken", x.snail(1, 0), 4);
        SnailTrails y = new SnailTrails();
        y.setSnail(4, 99);
        y.setSnail(2, 99);
        y.setFrost(3, 1, 0);
        y.pass(1);
        Checks.due("6: snail(0, 0) came first", y.snail(0, 0), 3);
        Checks.due("6: snail(1, 0) found it taken", y.snail(1, 0), 2);
    }

    private static void trailsDry() {
        SnailTrails x = new SnailTrails();
        x.setSnail(2, 5);
        x.pass(1);
        x.takeOff(0);
        for (int age = 1; age <= 6; age++) {
            Checks.due("6: cell(2, 0, 2)", x.cell(2, 0, 2), age);
            Checks.due("6: cell(2, 0, 1)", x.cell(2, 0, 1), 0);
            x.pass(1);
        }
        Checks.due("6: cell(2, 0, 1) at the age 7", x.cell(2, 0, 1), NONE);
        Checks.due("6: cell(2, 0, 2)", x.cell(2, 0, 2), NONE);
        Checks.due("6: count(4)", x.count(4), 0);
        Checks.due("6: cell(2, 0, 0) no frost grew at the turn 4", x.cell(2, 0, 0), 4);
        Checks.due("6: cell(3, 0, 0)", x.cell(3, 0, 0), 5);
        x.pass(1);
        Checks.due("6: cell(2, 0, 0) frost grew at the turn 8", x.cell(2, 0, 0), 5);
        Checks.due("6: cell(3, 0, 0)", x.cell(3, 0, 0), 6);
    }

    private static void trailsOfTheFirstCell() {
        SnailTrails x = new SnailTrails();
        x.setSnail(0, 99);
        x.setSnail(5, 99);
        x.pass(1);
        Checks.due("6: cell(0, 0, 2)", x.cell(0, 0, 2), 1);
        Checks.due("6: cell(1, 0, 2) no trail grows old", x.cell(1, 0, 2), NONE);
        Checks.due("24: count(4)", x.count(4), 2);
        Checks.due("18: reason(1, 0, 0)", x.reason(1, 0, 0), 0);
        x.pass(6);
        Checks.due("6: cell(0, 0, 1) it dried", x.cell(0, 0, 1), NONE);
        Checks.due("6: cell(0, 1, 1)", x.cell(0, 1, 1), 0);
    }

    private static void trailsOfNoAge() {
        SnailTrails x = new SnailTrails();
        x.set(0, 0);
        x.setSnail(2, 99);
        x.pass(1);
        Checks.due("6: count(4) gone at the turn's end", x.count(4), 0);
        x.setSnail(2, 99);
        x.pass(1);
        Checks.due("6: snail(1, 1)", x.snail(1, 1), 1);
        Checks.due("6: snail(1, 2) borrowed in the turn", x.snail(1, 2), 98);
        Checks.due("6: snail(1, 8)", x.snail(1, 8), 0);
        Checks.due("6: snail(1, 9)", x.snail(1, 9), 1);
        Checks.due("6: count(4)", x.count(4), 0);
        x.set(3, 1);
        x.pass(1);
        Checks.due("6: cell(2, 1, 0) dried before the frost grew", x.cell(2, 1, 0), 5);
    }

    private static void aTrailInPlaceOfAnother() {
        SnailTrails x = new SnailTrails();
        x.setSnail(2, 99);
        x.pass(2);
        x.setSnail(2, 99);
        Checks.due("15: cell(2, 0, 1) set on a trail", x.cell(2, 0, 1), 0);
        x.pass(1);
        Checks.due("6: cell(2, 0, 1)", x.cell(2, 0, 1), 1);
        Checks.due("6: cell(2, 0, 2)", x.cell(2, 0, 2), 1);
        Checks.due("6: cell(2, 1, 1) it is still there", x.cell(2, 1, 1), 0);
        Checks.due("6: cell(2, 1, 2)", x.cell(2, 1, 2), 2);
        Checks.due("6: cell(2, 1, 0) the frost stays", x.cell(2, 1, 0), 4);
        x.pass(1);
        Checks.due("6: cell(2, 1, 1)", x.cell(2, 1, 1), 1);
        Checks.due("6: cell(2, 1, 2)", x.cell(2, 1, 2), 1);
        Checks.due("6: count(4)", x.count(4), 4);
    }

    private static void frostGrows() {
        SnailTrails x = new SnailTrails();
        x.pass(3);
        Checks.due("6: count(5) before the turn 4", x.count(5), 480);
        x.pass(1);
        Checks.due("6: count(5) at the turn 4", x.count(5), 600);
        x.set(2, 1);
        x.setSnail(0, 0);
        x.pass(4);
        Checks.due("6: cell(0, 0, 0) under a snail too", x.cell(0, 0, 0), 6);
        Checks.due("6: count(5) at the turn 8", x.count(5), 720);
        x.set(3, 1);
        x.setFrost(5, 5, 0);
        x.takeOff(0);
        x.pass(3);
        Checks.due("6: count(5) in each turn", x.count(5), 119 * 9 + 3);
        x.pass(9);
        Checks.due("6: count(5) 9 at most", x.count(5), 1080);
        SnailTrails y = new SnailTrails();
        y.set(3, 50);
        y.pass(49);
        Checks.due("6: count(5) before the turn 50", y.count(5), 480);
        y.pass(1);
        Checks.due("6: count(5) at the turn 50", y.count(5), 600);
        y.pass(5);
        y.set(3, 7);
        y.pass(1);
        Checks.due("6: count(5) at 56, which 7 divides", y.count(5), 720);
    }

    /** Snail 0 goes ahead in lane 2, and snail 1 behind it on its trail. */
    private static SnailTrails followed() {
        SnailTrails x = new SnailTrails();
        x.set(0, 99);
        x.set(3, 50);
        x.setSnail(2, 99);
        x.pass(1);
        x.setSnail(2, 50);
        return x;
    }

    private static void borrowsSoManyTimes() {
        SnailTrails x = followed();
        int[] slimes = {49, 48, 43, 42, 41, 36};
        int[] inARow = {1, 2, 0, 1, 2, 0};
        for (int turn = 0; turn < slimes.length; turn++) {
            x.pass(1);
            Checks.due("6: snail(1, 2) in turn " + turn, x.snail(1, 2), slimes[turn]);
            Checks.due("6: snail(1, 9) in turn " + turn, x.snail(1, 9), inARow[turn]);
            Checks.due("6: snail(1, 8) in turn " + turn, x.snail(1, 8), inARow[turn] == 0 ? NONE : 0);
        }
        Checks.due("6: owes(1, 0)", x.owes(1, 0), 4);
        Checks.due("6: snail(1, 6)", x.snail(1, 6), 4);
        SnailTrails y = followed();
        y.set(1, 1);
        y.pass(4);
        Checks.due("6: snail(1, 2) each second one", y.snail(1, 2), 50 - 1 - 5 - 1 - 5);
        y.set(1, 9);
        y.pass(8);
        Checks.due("6: snail(1, 9) eight", y.snail(1, 9), 8);
        Checks.due("18: reason(1, 2, 12) eight of nine", y.reason(1, 2, 12), 0);
        y.set(1, 8);
        Checks.due("18: reason(1, 2, 12) too often by now", y.reason(1, 2, 12), 3);
        y.pass(1);
        Checks.due("6: snail(1, 9)", y.snail(1, 9), 0);
        Checks.due("6: snail(1, 2)", y.snail(1, 2), 38 - 8 - 5);
    }

    private static void aRestBreaksTheRow() {
        SnailTrails x = new SnailTrails();
        x.set(0, 99);
        x.setSnail(2, 99);
        x.pass(1);
        x.setSnail(2, 2);
        x.pass(3);
        Checks.due("6: snail(1, 1) it rested in the third", x.snail(1, 1), 2);
        Checks.due("6: snail(1, 7)", x.snail(1, 7), 1);
        Checks.due("14: snail(1, 8) it rested since", x.snail(1, 8), NONE);
        Checks.due("14: snail(1, 9)", x.snail(1, 9), 0);
        Checks.due("18: reason(1, 2, 3)", x.reason(1, 2, 3), 0);
        Checks.due("16: cost(1, 0)", x.cost(1, 0), 1);
        x.pass(1);
        Checks.due("14: snail(1, 9) from 1 again", x.snail(1, 9), 1);
    }

    private static void anotherLenderBreaksTheRow() {
        SnailTrails x = new SnailTrails();
        x.set(0, 99);
        x.set(3, 50);
        x.setSnail(1, 99);
        x.setSnail(3, 99);
        x.pass(5);
        x.setSnail(2, 50);
        x.pass(1);
        Checks.due("6: snail(2, 0) left before right", x.snail(2, 0), 1);
        Checks.due("6: snail(2, 8)", x.snail(2, 8), 0);
        x.pass(1);
        Checks.due("6: snail(2, 9)", x.snail(2, 9), 2);
        Checks.due("16: cost(2, 0)", x.cost(2, 0), 5);
        x.pass(1);
        Checks.due("6: snail(2, 0) straight of equal costs", x.snail(2, 0), 1);
        Checks.due("6: snail(2, 8)", x.snail(2, 8), NONE);
        SnailTrails y = new SnailTrails();
        y.set(0, 99);
        y.set(3, 50);
        y.set(1, 1);
        y.setSnail(2, 99);
        y.setSnail(3, 99);
        y.pass(5);
        y.setSnail(2, 50);
        y.pass(4);
        Checks.due("6: snail(2, 2) by turns from two lenders", y.snail(2, 2), 46);
        Checks.due("22: owes(2, 0)", y.owes(2, 0), 2);
        Checks.due("22: owes(2, 1)", y.owes(2, 1), 2);
        Checks.due("14: snail(2, 8)", y.snail(2, 8), 1);
        Checks.due("14: snail(2, 9)", y.snail(2, 9), 1);
        Checks.due("14: snail(2, 6)", y.snail(2, 6), 4);
    }

    private static void ends() {
        SnailTrails x = new SnailTrails();
        x.set(2, 20);
        x.setSnail(1, 99);
        x.setSnail(4, 0);
        x.setSnail(3, 99);
        int before = x.endsIn(0);
        Checks.due("19: endsIn(0), the same for the snail 2", x.endsIn(2), before);
        Checks.holds("19: the snail 1 ends later", x.endsIn(1) > before);
        x.pass(before - 1);
        Checks.due("6: snail(0, 1) below the rim", x.snail(0, 1), 18);
        Checks.due("6: pass(1) two end", x.pass(1), 2);
        Checks.due("6: snail(0, 1)", x.snail(0, 1), 19);
        Checks.due("6: snail(0, 3)", x.snail(0, 3), 1);
        Checks.due("6: snail(0, 4)", x.snail(0, 4), 1);
        Checks.due("6: snail(2, 4) ranks by numbers in a turn", x.snail(2, 4), 2);
        Checks.due("6: snail(1, 4)", x.snail(1, 4), NONE);
        Checks.due("6: cell(1, 19, 3) its cell is free", x.cell(x.snail(0, 0), 19, 3), NONE);
        Checks.due("6: cell(1, 19, 1) no trail at the rim", x.cell(x.snail(0, 0), 19, 1), NONE);
        Checks.due("6: pass(99)", x.pass(99), 1);
        Checks.due("6: snail(1, 4)", x.snail(1, 4), 3);
        Checks.due("6: snail(0, 5)", x.snail(0, 5), 19);
    }
}
