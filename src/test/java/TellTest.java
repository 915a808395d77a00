/** Promises 14 to 24: what is told. */
public final class TellTest {
    private static final int UNKNOWN = SnailTrails.UNKNOWN;
    private static final int BAD_VALUE = SnailTrails.BAD_VALUE;
    private static final int NOT_POSSIBLE = SnailTrails.NOT_POSSIBLE;
    private static final int NONE = SnailTrails.NONE;
    private static final int[] FAR_OFF = {-1, -2, Integer.MIN_VALUE, Integer.MAX_VALUE};

    private TellTest() {
    }

    public static void main(String[] args) {
        snail();
        cell();
        cost();
        does();
        reason();
        endsIn();
        endsInOfFollowers();
        wayUp();
        wayUpOverAPane();
        leader();
        owes();
        bestLane();
        bestLaneIsAsTried();
        bestLaneOfNone();
        count();
        Checks.end();
    }

    /** Snail 0 far ahead in lane 2, snail 1 on its trail, snail 2 taken off, snail 3 without slime. */
    private static SnailTrails someRace() {
        SnailTrails x = new SnailTrails();
        x.setSnail(2, 99);
        x.pass(1);
        x.setSnail(2, 50);
        x.setSnail(5, 99);
        x.pass(2);
        x.takeOff(2);
        x.setSnail(0, 0);
        return x;
    }

    private static void snail() {
        SnailTrails x = someRace();
        int[][] due = {
            {2, 3, 84, 0, NONE, 3, 0, 0, NONE, 0},
            {2, 2, 48, 0, NONE, 2, 2, 0, 0, 2},
            {5, 2, 89, 2, NONE, 2, 0, 0, NONE, 0},
            {0, 0, 0, 0, NONE, 0, 0, 0, NONE, 0}};
        for (int snail = 0; snail < due.length; snail++) {
            for (int what = 0; what < 10; what++) {
                Checks.due("14: snail(" + snail + ", " + what + ")", x.snail(snail, what), due[snail][what]);
            }
        }
        for (int far : FAR_OFF) {
            Checks.due("14: snail(" + far + ", 0)", x.snail(far, 0), UNKNOWN);
            Checks.due("14: snail(0, " + far + ")", x.snail(0, far), BAD_VALUE);
        }
        Checks.due("14: snail(4, 10), UNKNOWN first", x.snail(4, 10), UNKNOWN);
        Checks.due("14: snail(8, 0)", x.snail(8, 0), UNKNOWN);
        Checks.due("14: snail(0, 10)", x.snail(0, 10), BAD_VALUE);
        x.pass(99);
        Checks.due("14: snail(0, 1) the last one", x.snail(0, 1), 19);
        Checks.due("14: snail(0, 3)", x.snail(0, 3), 1);
        Checks.due("14: snail(0, 4)", x.snail(0, 4), 1);
        Checks.due("14: snail(2, 1) the last one", x.snail(2, 1), 2);
        Checks.due("14: snail(2, 3)", x.snail(2, 3), 2);
        Checks.due("14: snail(0, 5)", x.snail(0, 5), 19);
    }

    private static void cell() {
        SnailTrails x = someRace();
        Checks.due("15: cell(2, 1, 0)", x.cell(2, 1, 0), 4);
        Checks.due("15: cell(2, 1, 1)", x.cell(2, 1, 1), 1);
        Checks.due("15: cell(2, 1, 2)", x.cell(2, 1, 2), 1);
        Checks.due("15: cell(2, 2, 1)", x.cell(2, 2, 1), 0);
        Checks.due("15: cell(2, 2, 3)", x.cell(2, 2, 3), 1);
        Checks.due("15: cell(2, 3, 3)", x.cell(2, 3, 3), 0);
        Checks.due("15: cell(5, 2, 3), taken off", x.cell(5, 2, 3), NONE);
        Checks.due("15: cell(5, 0, 2)", x.cell(5, 0, 2), 2);
        Checks.due("15: cell(5, 19, 0)", x.cell(5, 19, 0), 4);
        for (int far : FAR_OFF) {
            Checks.due("15: cell(" + far + ", 0, 0)", x.cell(far, 0, 0), UNKNOWN);
            Checks.due("15: cell(0, " + far + ", 0)", x.cell(0, far, 0), UNKNOWN);
            Checks.due("15: cell(0, 0, " + far + ")", x.cell(0, 0, far), BAD_VALUE);
        }
        Checks.due("15: cell(6, 0, 4), UNKNOWN first", x.cell(6, 0, 4), UNKNOWN);
        Checks.due("15: cell(0, 20, 4), UNKNOWN first", x.cell(0, 20, 4), UNKNOWN);
        Checks.due("15: cell(0, 0, 4)", x.cell(0, 0, 4), BAD_VALUE);
    }

    private static void cost() {
        SnailTrails x = someRace();
        Checks.due("16: cost(0, 0)", x.cost(0, 0), 5);
        Checks.due("16: cost(1, 0), a snail is there", x.cost(1, 0), NONE);
        Checks.due("16: cost(1, 1)", x.cost(1, 1), 5);
        x.setFrost(3, 3, 0);
        Checks.due("16: cost(1, 2)", x.cost(1, 2), 1);
        x.setFrost(0, 1, 9);
        Checks.due("16: cost(3, 0), slime does not matter", x.cost(3, 0), 10);
        Checks.due("16: cost(3, 1), beside the pane", x.cost(3, 1), NONE);
        Checks.due("16: cost(2, 0), taken off", x.cost(2, 0), NOT_POSSIBLE);
        Checks.due("16: cost(2, 3), BAD_VALUE first", x.cost(2, 3), BAD_VALUE);
        for (int far : FAR_OFF) {
            Checks.due("16: cost(" + far + ", 0)", x.cost(far, 0), UNKNOWN);
            Checks.due("16: cost(0, " + far + ")", x.cost(0, far), BAD_VALUE);
        }
        Checks.due("16: cost(4, 3), UNKNOWN first", x.cost(4, 3), UNKNOWN);
        x.setSnail(5, 9);
        Checks.due("16: cost(4, 0), a trail of another", x.cost(4, 0), 1);
        Checks.due("16: cost(4, 2), beside the pane", x.cost(4, 2), NONE);
        x.pass(99);
        Checks.due("16: cost(0, 0), ended", x.cost(0, 0), NOT_POSSIBLE);
    }

    private static void does() {
        SnailTrails x = someRace();
        Checks.due("17: does(0)", x.does(0), 0);
        Checks.due("17: does(1), if all stayed", x.does(1), 1);
        Checks.due("17: does(2)", x.does(2), NOT_POSSIBLE);
        Checks.due("17: does(3)", x.does(3), 3);
        Checks.due("17: does(4)", x.does(4), UNKNOWN);
        for (int far : FAR_OFF) {
            Checks.due("17: does(" + far + ")", x.does(far), UNKNOWN);
        }
        x.setFrost(3, 4, 3);
        Checks.due("17: does(0) to the right", x.does(0), 2);
        SnailTrails y = new SnailTrails();
        y.setSnail(5, 5);
        y.setSnail(4, 5);
        y.pass(1);
        y.setSnail(5, 0);
        Checks.due("17: does(2), no step rather than no slime", y.does(2), 4);
        y.takeOff(1);
        Checks.due("17: does(2)", y.does(2), 3);
        SnailTrails z = new SnailTrails();
        z.setSnail(0, 5);
        Checks.due("17: does(0), just enough", z.does(0), 0);
    }

    private static void reason() {
        SnailTrails x = someRace();
        Checks.due("18: reason(1, 2, 2), twice already", x.reason(1, 2, 2), 3);
        Checks.due("18: reason(1, 5, 1)", x.reason(1, 5, 1), 0);
        Checks.due("18: reason(1, 2, 1), its own", x.reason(1, 2, 1), 2);
        Checks.due("18: reason(0, 2, 2), its own", x.reason(0, 2, 2), 2);
        Checks.due("18: reason(0, 2, 1)", x.reason(0, 2, 1), 0);
        Checks.due("18: reason(0, 2, 3), no trail", x.reason(0, 2, 3), 1);
        Checks.due("18: reason(2, 2, 1), taken off", x.reason(2, 2, 1), 0);
        Checks.due("18: reason(2, 5, 0), taken off", x.reason(2, 5, 0), 2);
        for (int far : FAR_OFF) {
            Checks.due("18: reason(" + far + ", 0, 0)", x.reason(far, 0, 0), UNKNOWN);
            Checks.due("18: reason(0, " + far + ", 0)", x.reason(0, far, 0), UNKNOWN);
            Checks.due("18: reason(0, 0, " + far + ")", x.reason(0, 0, far), UNKNOWN);
        }
        Checks.due("18: reason(4, 0, 0)", x.reason(4, 0, 0), UNKNOWN);
        Checks.due("18: reason(0, 6, 0)", x.reason(0, 6, 0), UNKNOWN);
        Checks.due("18: reason(0, 0, 20)", x.reason(0, 0, 20), UNKNOWN);
        x.set(1, 3);
        Checks.due("18: reason(1, 2, 2), twice of three", x.reason(1, 2, 2), 0);
        x.set(1, 1);
        Checks.due("18: reason(1, 2, 2), twice of one", x.reason(1, 2, 2), 3);
        SnailTrails y = new SnailTrails();
        y.set(0, 99);
        y.set(1, 9);
        y.set(3, 50);
        y.setSnail(2, 99);
        y.pass(1);
        y.setSnail(2, 40);
        y.pass(99);
        Checks.due("18: reason(1, 2, 18), ended", y.reason(1, 2, 18), 2);
        Checks.due("18: reason(0, 2, 18), ended", y.reason(0, 2, 18), 0);
    }

    private static void endsIn() {
        SnailTrails x = new SnailTrails();
        Checks.due("19: endsIn(0)", x.endsIn(0), UNKNOWN);
        x.set(3, 50);
        x.setSnail(3, 95);
        x.setSnail(0, 94);
        Checks.due("19: endsIn(0), 19 steps", x.endsIn(0), 19);
        Checks.due("19: endsIn(1), one rest", x.endsIn(1), 20);
        Checks.due("19: count(0), nothing changed", x.count(0), 0);
        Checks.due("19: count(4), nothing changed", x.count(4), 0);
        Checks.due("19: snail(0, 2), nothing changed", x.snail(0, 2), 95);
        x.pass(18);
        Checks.due("19: endsIn(0)", x.endsIn(0), 1);
        Checks.due("19: endsIn(1)", x.endsIn(1), 2);
        x.pass(1);
        Checks.due("19: endsIn(0), ended", x.endsIn(0), 0);
        Checks.due("19: endsIn(1)", x.endsIn(1), 1);
        x.takeOff(1);
        Checks.due("19: endsIn(1), taken off", x.endsIn(1), NOT_POSSIBLE);
        for (int far : FAR_OFF) {
            Checks.due("19: endsIn(" + far + ")", x.endsIn(far), UNKNOWN);
        }
        SnailTrails y = new SnailTrails();
        y.set(2, 1);
        y.set(3, 1);
        y.pass(5);
        y.setSnail(0, 0);
        Checks.due("19: endsIn(0), ten rests for each step", y.endsIn(0), 19 * 11);
    }

    private static void endsInOfFollowers() {
        SnailTrails x = someRace();
        for (int snail = 0; snail < 4; snail++) {
            int told = x.endsIn(snail);
            if (snail == 2) {
                continue;
            }
            x.keep();
            for (int turn = 1; turn < told; turn++) {
                x.pass(1);
            }
            Checks.due("19: snail(" + snail + ", 3) just before", x.snail(snail, 3), 0);
            x.pass(1);
            Checks.due("19: snail(" + snail + ", 3) then", x.snail(snail, 3), 1);
            x.restore();
        }
    }

    private static void bothWays(SnailTrails x, int lane, int row, int due) {
        Checks.due("20: wayUp(" + lane + ", " + row + ", 0)", x.wayUp(lane, row, 0), due);
        Checks.due("20: wayUp(" + lane + ", " + row + ", 1)", x.wayUp(lane, row, 1), due);
    }

    private static void wayUp() {
        SnailTrails x = new SnailTrails();
        bothWays(x, 0, 0, 95);
        bothWays(x, 5, 0, 95);
        bothWays(x, 3, 18, 5);
        bothWays(x, 3, 19, 0);
        x.setFrost(3, 18, 0);
        bothWays(x, 3, 18, 5);
        bothWays(x, 3, 17, 6);
        bothWays(x, 2, 17, 6);
        bothWays(x, 4, 17, 6);
        bothWays(x, 1, 17, 10);
        bothWays(x, 1, 16, 11);
        bothWays(x, 0, 15, 16);
        bothWays(x, 0, 16, 15);
        x.setFrost(3, 0, 9);
        bothWays(x, 3, 0, 91);
        x.setSnail(3, 99);
        x.setSnail(2, 99);
        x.setSnail(4, 99);
        x.pass(2);
        bothWays(x, 3, 0, 91);
        for (int far : FAR_OFF) {
            Checks.due("20: wayUp(" + far + ", 0, 0)", x.wayUp(far, 0, 0), UNKNOWN);
            Checks.due("20: wayUp(0, " + far + ", 1)", x.wayUp(0, far, 1), UNKNOWN);
            Checks.due("20: wayUp(0, 0, " + far + ")", x.wayUp(0, 0, far), BAD_VALUE);
        }
        Checks.due("20: wayUp(6, 0, 2), UNKNOWN first", x.wayUp(6, 0, 2), UNKNOWN);
        Checks.due("20: wayUp(0, 20, 2), UNKNOWN first", x.wayUp(0, 20, 2), UNKNOWN);
        Checks.due("20: wayUp(0, 19, 2)", x.wayUp(0, 19, 2), BAD_VALUE);
    }

    /** The least sum by trying all ways: a second telling for panes that are no plain ones. */
    private static int leastByTrying(int[][] frosts, int lane, int row) {
        if (row == 19) {
            return 0;
        }
        int least = Integer.MAX_VALUE;
        for (int to = Math.max(lane - 1, 0); to <= Math.min(lane + 1, 5); to++) {
            least = Math.min(least, 1 + frosts[to][row + 1] + leastByTrying(frosts, to, row + 1));
        }
        return least;
    }

    private static void wayUpOverAPane() {
        SnailTrails x = new SnailTrails();
        int[][] frosts = new int[6][20];
        for (int place = 0; place < 54; place++) {
            int frost = (place * place * 7 + place * 3 + place / 5) % 10;
            frosts[place % 6][11 + place / 6] = frost;
            x.setFrost(place % 6, 11 + place / 6, frost);
        }
        for (int row = 10; row < 20; row++) {
            for (int lane = 0; lane < 6; lane++) {
                bothWays(x, lane, row, leastByTrying(frosts, lane, row));
            }
        }
    }

    private static void leader() {
        SnailTrails x = new SnailTrails();
        x.setSnail(0, 3);
        Checks.due("21: leader()", x.leader(), 0);
        x.setSnail(1, 4);
        Checks.due("21: leader(), more slime", x.leader(), 1);
        x.setSnail(2, 4);
        Checks.due("21: leader(), the lowest", x.leader(), 1);
        x.setSnail(3, 5);
        x.pass(1);
        Checks.due("21: leader(), the highest row", x.leader(), 3);
        Checks.due("21: snail(3, 2)", x.snail(3, 2), 0);
        x.takeOff(3);
        Checks.due("21: leader(), one that creeps", x.leader(), 1);
        x.pass(99);
        x.pass(99);
        Checks.due("21: leader(), all have ended", x.leader(), NONE);
        x.setSnail(5, 0);
        Checks.due("21: leader()", x.leader(), 4);
    }

    private static void owes() {
        SnailTrails x = someRace();
        Checks.due("22: owes(1, 0)", x.owes(1, 0), 2);
        Checks.due("22: owes(0, 1)", x.owes(0, 1), 0);
        Checks.due("22: owes(1, 2)", x.owes(1, 2), 0);
        Checks.due("22: owes(1, 1)", x.owes(1, 1), BAD_VALUE);
        Checks.due("22: owes(4, 4), UNKNOWN first", x.owes(4, 4), UNKNOWN);
        for (int far : FAR_OFF) {
            Checks.due("22: owes(" + far + ", 0)", x.owes(far, 0), UNKNOWN);
            Checks.due("22: owes(0, " + far + ")", x.owes(0, far), UNKNOWN);
        }
        Checks.due("22: owes(4, 0)", x.owes(4, 0), UNKNOWN);
        Checks.due("22: owes(0, 4)", x.owes(0, 4), UNKNOWN);
        x.setSnail(5, 50);
        x.pass(1);
        Checks.due("22: owes(4, 2), taken off", x.owes(4, 2), 1);
    }

    private static void bestLane() {
        SnailTrails x = new SnailTrails();
        x.set(3, 50);
        Checks.due("23: bestLane(95, 0)", x.bestLane(95, 0), 0);
        Checks.due("23: bestLane(95, 1)", x.bestLane(95, 1), 19);
        Checks.due("23: bestLane(94, 1)", x.bestLane(94, 1), 20);
        x.setSnail(0, 0);
        Checks.due("23: bestLane(95, 0), free ones alone", x.bestLane(95, 0), 1);
        x.setFrost(4, 1, 0);
        Checks.due("23: bestLane(91, 0)", x.bestLane(91, 0), 3);
        Checks.due("23: bestLane(91, 1)", x.bestLane(91, 1), 19);
        x.setFrost(5, 1, 0);
        x.setFrost(5, 2, 0);
        Checks.due("23: bestLane(87, 0)", x.bestLane(87, 0), 3);
        Checks.due("23: bestLane(87, 1)", x.bestLane(87, 1), 19);
        Checks.due("23: bestLane(86, 1)", x.bestLane(86, 1), 20);
        Checks.due("23: count(1), nothing changed", x.count(1), 1);
        Checks.due("23: count(0), nothing changed", x.count(0), 0);
        Checks.due("23: count(13), no act", x.count(13), 4);
        SnailTrails y = new SnailTrails();
        y.set(3, 50);
        Checks.perform(y, "f0.1=9;f1.1=9;f2.1=9;f3.1=9;f5.1=3");
        Checks.due("23: bestLane(94, 0)", y.bestLane(94, 0), 4);
        y.setSnail(4, 0);
        Checks.due("23: bestLane(94, 0)", y.bestLane(94, 0), 5);
        for (int far : FAR_OFF) {
            Checks.due("23: bestLane(" + far + ", 0)", x.bestLane(far, 0), BAD_VALUE);
            Checks.due("23: bestLane(0, " + far + ")", x.bestLane(0, far), BAD_VALUE);
        }
        Checks.due("23: bestLane(100, 0)", x.bestLane(100, 0), BAD_VALUE);
        Checks.due("23: bestLane(99, 2)", x.bestLane(99, 2), BAD_VALUE);
    }

    private static void bestLaneIsAsTried() {
        SnailTrails x = someRace();
        x.keep();
        for (int slime = 0; slime < 100; slime += 9) {
            int best = NONE;
            int least = 301;
            for (int lane = 0; lane < 6; lane++) {
                int snail = x.setSnail(lane, slime);
                if (snail >= 0) {
                    int turns = x.endsIn(snail);
                    if (turns < least) {
                        best = lane;
                        least = turns;
                    }
                    x.undo();
                }
            }
            Checks.due("23: bestLane(" + slime + ", 0)", x.bestLane(slime, 0), best);
            Checks.due("23: bestLane(" + slime + ", 1)", x.bestLane(slime, 1), least);
        }
    }

    private static void bestLaneOfNone() {
        SnailTrails x = new SnailTrails();
        for (int lane = 0; lane < 6; lane++) {
            x.setSnail(lane, 99);
        }
        Checks.due("23: bestLane(50, 0), none is free", x.bestLane(50, 0), NONE);
        Checks.due("23: bestLane(50, 1), none is free", x.bestLane(50, 1), NONE);
        Checks.due("23: bestLane(50, 2), BAD_VALUE first", x.bestLane(50, 2), BAD_VALUE);
        x.pass(1);
        x.setSnail(0, 50);
        x.setSnail(1, 50);
        Checks.due("2: setSnail(2, 50)", x.setSnail(2, 50), SnailTrails.FULL);
        Checks.due("23: bestLane(50, 0), eight were set", x.bestLane(50, 0), 2);
        Checks.holds("23: bestLane(50, 1), eight were set", x.bestLane(50, 1) > 0);
        Checks.due("23: count(1)", x.count(1), 8);
        Checks.due("14: snail(8, 0)", x.snail(8, 0), UNKNOWN);
    }

    private static void count() {
        SnailTrails x = someRace();
        int[] due = {3, 4, 3, 0, 5, 480, 7, 2, 0, 6, 2, 5, 4, 4, 0};
        for (int what = 0; what < due.length; what++) {
            Checks.due("24: count(" + what + ")", x.count(what), due[what]);
        }
        for (int far : FAR_OFF) {
            Checks.due("24: count(" + far + ")", x.count(far), BAD_VALUE);
        }
        Checks.due("24: count(15)", x.count(15), BAD_VALUE);
        x.type('x');
        Checks.due("24: count(14)", x.count(14), 1);
        x.undo();
        Checks.due("24: count(13)", x.count(13), 3);
        x.pass(99);
        x.pass(99);
        Checks.due("24: count(3)", x.count(3), 2);
        Checks.due("24: count(2)", x.count(2), 0);
        int[] sums = new int[3];
        int owed = 0;
        for (int snail = 0; snail < 3; snail++) {
            for (int sum = 0; sum < 3; sum++) {
                sums[sum] += x.snail(snail, 5 + sum);
            }
            for (int other = 0; other < 3; other++) {
                owed += snail == other ? 0 : x.owes(snail, other);
            }
        }
        for (int sum = 0; sum < 3; sum++) {
            Checks.due("24: count(" + (6 + sum) + ")", x.count(6 + sum), sums[sum]);
        }
        Checks.due("24: count(7), what is owed in all", x.count(7), owed);
    }
}
