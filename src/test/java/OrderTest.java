/** "Where several errors can apply, the order of the @return line is the order of the checks", for each two that can. */
public final class OrderTest {
    private static final int UNKNOWN = SnailTrails.UNKNOWN;
    private static final int BAD_VALUE = SnailTrails.BAD_VALUE;
    private static final int FULL = SnailTrails.FULL;
    private static final int NOT_POSSIBLE = SnailTrails.NOT_POSSIBLE;
    private static final int NONE = SnailTrails.NONE;

    private OrderTest() {
    }

    public static void main(String[] args) {
        setSnail();
        setFrost();
        set();
        pass();
        perform();
        performAsSetSnail();
        stopped();
        snailAndCell();
        cost();
        reason();
        endsIn();
        wayUp();
        owes();
        bestLane();
        Checks.end();
    }

    private static void setSnail() {
        Checks.sentence(2, "UNKNOWN (lane); BAD_VALUE; NOT_POSSIBLE if a snail is there; FULL if 8 were set");
        SnailTrails x = Panes.ofEight();
        Checks.due("setSnail(6, 100), UNKNOWN before BAD_VALUE and FULL", x.setSnail(6, 100), UNKNOWN);
        Checks.due("setSnail(-1, -1), UNKNOWN before BAD_VALUE and FULL", x.setSnail(-1, -1), UNKNOWN);
        Checks.due("setSnail(6, 5), UNKNOWN before FULL", x.setSnail(6, 5), UNKNOWN);
        Checks.due("setSnail(0, 100), BAD_VALUE before NOT_POSSIBLE and FULL", x.setSnail(0, 100), BAD_VALUE);
        Checks.due("setSnail(0, -1), BAD_VALUE before NOT_POSSIBLE and FULL", x.setSnail(0, -1), BAD_VALUE);
        Checks.due("setSnail(2, 100), BAD_VALUE before FULL", x.setSnail(2, 100), BAD_VALUE);
        Checks.due("setSnail(0, 5), NOT_POSSIBLE before FULL", x.setSnail(0, 5), NOT_POSSIBLE);
        Checks.due("setSnail(2, 5)", x.setSnail(2, 5), FULL);
        SnailTrails y = new SnailTrails();
        y.setSnail(2, 5);
        Checks.due("setSnail(2, 100), BAD_VALUE before NOT_POSSIBLE", y.setSnail(2, 100), BAD_VALUE);
        Checks.due("setSnail(6, 100), UNKNOWN before BAD_VALUE", y.setSnail(6, 100), UNKNOWN);
    }

    private static void setFrost() {
        Checks.sentence(4, "UNKNOWN; BAD_VALUE; NONE if it is so already, and there is no trail");
        SnailTrails x = new SnailTrails();
        Checks.due("setFrost(6, 0, 10)", x.setFrost(6, 0, 10), UNKNOWN);
        Checks.due("setFrost(-1, 0, -1)", x.setFrost(-1, 0, -1), UNKNOWN);
        Checks.due("setFrost(0, 20, 10)", x.setFrost(0, 20, 10), UNKNOWN);
        Checks.due("setFrost(0, -1, -1)", x.setFrost(0, -1, -1), UNKNOWN);
        Checks.due("setFrost(6, 0, 4), NONE only if no error applies", x.setFrost(6, 0, 4), UNKNOWN);
    }

    private static void set() {
        Checks.sentence(5, "UNKNOWN; BAD_VALUE; NONE if it is so already");
        SnailTrails x = new SnailTrails();
        Checks.due("set(4, 100)", x.set(4, 100), UNKNOWN);
        Checks.due("set(-1, -1)", x.set(-1, -1), UNKNOWN);
        Checks.due("set(4, 0)", x.set(4, 0), UNKNOWN);
    }

    private static void pass() {
        Checks.sentence(6, "BAD_VALUE; FULL if the turn would be beyond 99999");
        SnailTrails x = Panes.atTurn(99999);
        Checks.due("pass(100)", x.pass(100), BAD_VALUE);
        Checks.due("pass(0)", x.pass(0), BAD_VALUE);
        Checks.due("pass(-1)", x.pass(-1), BAD_VALUE);
        Checks.due("pass(), the greatest int", x.pass(Integer.MAX_VALUE), BAD_VALUE);
        Checks.due("pass(), the least int", x.pass(Integer.MIN_VALUE), BAD_VALUE);
        Checks.due("pass(1)", x.pass(1), FULL);
    }

    private static void perform() {
        Checks.sentence(9, "-100 minus the fault of the text if it has one (which is an error); NOT_POSSIBLE if any is stopped");
        SnailTrails x = new SnailTrails();
        Checks.due("perform(), a fault behind what would be stopped", Checks.perform(x, "s3*1;s3*1;x"), -110);
        Checks.due("perform(), that ends too early", Checks.perform(x, "s3*1;s3*1;"), -110);
        Checks.due("stopped(0)", x.stopped(0), NONE);
        Checks.due("perform()", Checks.perform(x, "s3*1;s3*1"), NOT_POSSIBLE);
    }

    private static void performAsSetSnail() {
        Checks.sentence(9, "Does all that the race of the text, which stays, tells, one after the other (as setSnail(), setFrost() and pass())");
        SnailTrails x = Panes.ofEight();
        Checks.due("perform()", Checks.perform(x, "s0*1"), NOT_POSSIBLE);
        Checks.due("stopped(1), NOT_POSSIBLE before FULL", x.stopped(1), NOT_POSSIBLE);
        Checks.due("perform()", Checks.perform(x, "s2*1"), NOT_POSSIBLE);
        Checks.due("stopped(1)", x.stopped(1), FULL);
    }

    private static void stopped() {
        Checks.sentence(10, "BAD_VALUE; NONE if nothing was stopped yet");
        SnailTrails x = new SnailTrails();
        Checks.due("stopped(2)", x.stopped(2), BAD_VALUE);
        Checks.due("stopped(-1)", x.stopped(-1), BAD_VALUE);
        Checks.due("stopped(0)", x.stopped(0), NONE);
    }

    private static void snailAndCell() {
        Checks.sentence(14, "UNKNOWN; BAD_VALUE");
        SnailTrails x = new SnailTrails();
        x.setSnail(2, 9);
        Checks.due("snail(1, 10)", x.snail(1, 10), UNKNOWN);
        Checks.due("snail(-1, -1)", x.snail(-1, -1), UNKNOWN);
        Checks.sentence(15, "UNKNOWN; BAD_VALUE");
        Checks.due("cell(6, 0, 4)", x.cell(6, 0, 4), UNKNOWN);
        Checks.due("cell(0, 20, 4)", x.cell(0, 20, 4), UNKNOWN);
        Checks.due("cell(-1, -1, -1)", x.cell(-1, -1, -1), UNKNOWN);
    }

    /** Snail 1 was taken off in the lane 0, snail 2 has ended: for both, the step 1 or all steps lead off the pane. */
    private static void cost() {
        Checks.sentence(16, "UNKNOWN; BAD_VALUE; NOT_POSSIBLE if the snail does not creep; NONE if there is no such step");
        SnailTrails x = Panes.ofEachKind();
        Checks.due("cost(3, 3), UNKNOWN before BAD_VALUE", x.cost(3, 3), UNKNOWN);
        Checks.due("cost(-1, -1), UNKNOWN before BAD_VALUE", x.cost(-1, -1), UNKNOWN);
        Checks.due("cost(1, 3), BAD_VALUE before NOT_POSSIBLE", x.cost(1, 3), BAD_VALUE);
        Checks.due("cost(2, -1), BAD_VALUE before NOT_POSSIBLE", x.cost(2, -1), BAD_VALUE);
        Checks.due("cost(1, 1), NOT_POSSIBLE before NONE", x.cost(1, 1), NOT_POSSIBLE);
        for (int step = 0; step < 3; step++) {
            Checks.due("cost(2, " + step + "), NOT_POSSIBLE before NONE", x.cost(2, step), NOT_POSSIBLE);
        }
        Checks.due("cost(0, 3), BAD_VALUE before all costs", x.cost(0, 3), BAD_VALUE);
    }

    private static void reason() {
        Checks.sentence(18, "UNKNOWN (snail or cell)");
        SnailTrails x = new SnailTrails();
        Checks.due("reason(0, 6, 0), both", x.reason(0, 6, 0), UNKNOWN);
        Checks.due("reason(0, 0, 0), the snail", x.reason(0, 0, 0), UNKNOWN);
        x.setSnail(2, 9);
        Checks.due("reason(0, 6, 0), the lane", x.reason(0, 6, 0), UNKNOWN);
        Checks.due("reason(0, 0, 20), the row", x.reason(0, 0, 20), UNKNOWN);
        Checks.due("reason(1, 0, 0), the snail", x.reason(1, 0, 0), UNKNOWN);
    }

    private static void endsIn() {
        Checks.sentence(19, "how many, 0 if it has ended; UNKNOWN; NOT_POSSIBLE if it was taken off; NONE if that is not within 300");
        SnailTrails x = Panes.ofEachKind();
        Checks.due("endsIn(3)", x.endsIn(3), UNKNOWN);
        Checks.due("endsIn(2)", x.endsIn(2), 0);
        Checks.due("endsIn(1), it never ends", x.endsIn(1), NOT_POSSIBLE);
    }

    private static void wayUp() {
        Checks.sentence(20, "UNKNOWN; BAD_VALUE");
        SnailTrails x = new SnailTrails();
        Checks.due("wayUp(6, 0, 2)", x.wayUp(6, 0, 2), UNKNOWN);
        Checks.due("wayUp(0, 20, 2)", x.wayUp(0, 20, 2), UNKNOWN);
        Checks.due("wayUp(-1, -1, -1)", x.wayUp(-1, -1, -1), UNKNOWN);
        Checks.due("wayUp(0, 19, 2), BAD_VALUE in the row 19 too", x.wayUp(0, 19, 2), BAD_VALUE);
    }

    private static void owes() {
        Checks.sentence(22, "UNKNOWN (snail or other); BAD_VALUE if both are the same");
        SnailTrails x = new SnailTrails();
        Checks.due("owes(0, 0), neither is a snail", x.owes(0, 0), UNKNOWN);
        x.setSnail(2, 9);
        Checks.due("owes(1, 1), neither is a snail", x.owes(1, 1), UNKNOWN);
        Checks.due("owes(-1, -1), neither is a snail", x.owes(-1, -1), UNKNOWN);
        Checks.due("owes(0, 0)", x.owes(0, 0), BAD_VALUE);
    }

    private static void bestLane() {
        Checks.sentence(23, "BAD_VALUE; NONE if it would not end within 300 turns in any free lane");
        SnailTrails x = new SnailTrails();
        for (int lane = 0; lane < 6; lane++) {
            x.setSnail(lane, 0);
        }
        Checks.due("bestLane(100, 0)", x.bestLane(100, 0), BAD_VALUE);
        Checks.due("bestLane(-1, 1)", x.bestLane(-1, 1), BAD_VALUE);
        Checks.due("bestLane(50, 2)", x.bestLane(50, 2), BAD_VALUE);
        Checks.due("bestLane(50, -1)", x.bestLane(50, -1), BAD_VALUE);
        Checks.due("bestLane(50, 0)", x.bestLane(50, 0), NONE);
        Checks.due("bestLane(50, 1)", x.bestLane(50, 1), NONE);
    }
}
