/** Panes that several tests begin with. */
final class Panes {
    /** Fifteen things, as many turns as one text can tell: 1485. */
    private static final String LONGEST = ".99;.99;.99;.99;.99;.99;.99;.99;.99;.99;.99;.99;.99;.99;.99";

    private Panes() {
    }

    /** Snails 0 to 7, all creeping: 0 to 5 in the row 1, 6 and 7 in the row 0 of the lanes 0 and 1. */
    static SnailTrails ofEight() {
        SnailTrails x = new SnailTrails();
        setEight(x);
        return x;
    }

    static void setEight(SnailTrails x) {
        for (int lane = 0; lane < 6; lane++) {
            x.setSnail(lane, 99);
        }
        x.pass(1);
        x.setSnail(0, 50);
        x.setSnail(1, 50);
    }

    /** Takes 127 calls to the turn 99495, and six more to the turn. */
    static void passTo(SnailTrails x, int turn) {
        Checks.write(x, LONGEST);
        for (int times = 0; times < 67; times++) {
            x.perform();
        }
        int left = turn - x.count(0);
        while (left > 0) {
            x.pass(Math.min(left, 99));
            left -= Math.min(left, 99);
        }
    }

    static SnailTrails atTurn(int turn) {
        SnailTrails x = new SnailTrails();
        passTo(x, turn);
        return x;
    }

    /**
     * Snail 0 goes ahead in the lane 2, and snail 1 stands two rows behind it with slime 99, a trail before
     * it; no trail dries and no frost grows for long.
     */
    static SnailTrails followed(int borrowsInARow) {
        SnailTrails x = new SnailTrails();
        x.set(0, 99);
        x.set(1, borrowsInARow);
        x.set(3, 50);
        x.setSnail(2, 99);
        x.pass(2);
        x.setSnail(2, 99);
        return x;
    }

    /** At the turn 20: snail 0 creeps in the lane 2, 1 was taken off at the lane 0, 2 has ended in the lane 5. */
    static SnailTrails ofEachKind() {
        SnailTrails x = new SnailTrails();
        x.set(2, 1);
        x.set(3, 50);
        x.setSnail(2, 0);
        x.setSnail(0, 99);
        x.pass(1);
        x.takeOff(1);
        x.setSnail(5, 99);
        x.pass(19);
        return x;
    }
}
