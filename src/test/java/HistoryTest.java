import java.util.function.Consumer;

/** Promises 11 to 13: undo, the snapshot, and what is an act. */
public final class HistoryTest {
    private static final int NONE = SnailTrails.NONE;

    private HistoryTest() {
    }

    public static void main(String[] args) {
        undoGoesBack();
        theOldestIsDropped();
        whatIsNoAct();
        keepAndRestore();
        theSnapshotStays();
        allOfTheStateComesBack();
        whatIsOwedComesBack();
        Checks.end();
    }

    private static void undoGoesBack() {
        SnailTrails x = new SnailTrails();
        Checks.due("11: undo() of nothing", x.undo(), NONE);
        x.setSnail(1, 50);
        x.pass(2);
        x.set(2, 9);
        Checks.due("11: undo()", x.undo(), 2);
        Checks.due("11: count(11)", x.count(11), 5);
        Checks.due("11: count(0)", x.count(0), 2);
        Checks.due("11: undo()", x.undo(), 1);
        Checks.due("11: count(0)", x.count(0), 0);
        Checks.due("11: snail(0, 1)", x.snail(0, 1), 0);
        Checks.due("11: undo()", x.undo(), 0);
        Checks.due("11: count(1)", x.count(1), 0);
        Checks.due("11: undo()", x.undo(), NONE);
        Checks.due("2: setSnail() after undo() has the number 0", x.setSnail(1, 50), 0);
    }

    private static void theOldestIsDropped() {
        SnailTrails x = new SnailTrails();
        for (int turn = 1; turn <= 7; turn++) {
            x.pass(1);
            Checks.due("11: count(13)", x.count(13), Math.min(turn, 4));
        }
        for (int left = 3; left >= 0; left--) {
            Checks.due("11: undo()", x.undo(), left);
            Checks.due("11: count(0)", x.count(0), 3 + left);
            Checks.due("11: count(13)", x.count(13), left);
        }
        Checks.due("11: undo() of the dropped", x.undo(), NONE);
        Checks.due("11: count(0)", x.count(0), 3);
        x.pass(5);
        Checks.due("11: undo()", x.undo(), 0);
        Checks.due("11: count(0)", x.count(0), 3);
    }

    private static void whatIsNoAct() {
        SnailTrails x = new SnailTrails();
        x.setSnail(0, 9);
        x.setSnail(0, 9);
        x.setFrost(0, 0, 4);
        x.set(0, 6);
        x.pass(0);
        x.takeOff(1);
        x.restore();
        x.keep();
        x.endsIn(0);
        x.bestLane(9, 0);
        x.wayUp(0, 0, 1);
        x.cost(0, 0);
        x.does(0);
        x.leader();
        Checks.perform(x, "s0*1");
        Checks.perform(x, "s0*");
        Checks.due("11: count(13)", x.count(13), 1);
        Checks.due("13: restore() is one", x.restore(), 0);
        Checks.due("11: count(13)", x.count(13), 2);
        x.takeOff(0);
        Checks.due("11: count(13)", x.count(13), 3);
    }

    private static void keepAndRestore() {
        SnailTrails x = new SnailTrails();
        Checks.due("13: restore() of nothing", x.restore(), NONE);
        Checks.due("12: keep() at the turn 0", x.keep(), 0);
        x.pass(9);
        Checks.due("13: restore()", x.restore(), 0);
        Checks.due("13: count(0)", x.count(0), 0);
        Checks.due("13: count(5)", x.count(5), 480);
        Checks.due("13: undo() of it", x.undo(), 1);
        Checks.due("13: count(0)", x.count(0), 9);
        Checks.due("12: keep()", x.keep(), 9);
        Checks.due("12: count(13), no act", x.count(13), 1);
        x.pass(1);
        Checks.due("13: restore()", x.restore(), 9);
        Checks.due("13: restore() of what is so", x.restore(), 9);
        Checks.due("13: count(13)", x.count(13), 4);
    }

    private static void theSnapshotStays() {
        SnailTrails x = new SnailTrails();
        x.setSnail(2, 30);
        x.keep();
        x.pass(3);
        x.undo();
        x.undo();
        Checks.due("12: count(1)", x.count(1), 0);
        Checks.due("13: restore()", x.restore(), 0);
        Checks.due("13: count(1)", x.count(1), 1);
        x.pass(4);
        x.setFrost(0, 0, 0);
        Checks.due("13: restore(), it stays", x.restore(), 0);
        Checks.due("13: cell(0, 0, 0)", x.cell(0, 0, 0), 4);
        Checks.due("13: snail(0, 2)", x.snail(0, 2), 30);
        Checks.write(x, "abc");
        x.restore();
        Checks.due("13: count(14), no part of the state", x.count(14), 3);
    }

    private static void allOfTheStateComesBack() {
        Consumer<SnailTrails> race = x -> {
            Checks.perform(x, "s2*99;.1;s2*20;.1;s2*8;s3*60;.9;f0.7=1");
            x.keep();
        };
        Checks.alike("11: undo() brings all back", race, race.andThen(x -> x.takeOff(3)).andThen(SnailTrails::undo));
        Checks.alike("11: undo() brings all back", race, race.andThen(x -> x.pass(99)).andThen(SnailTrails::undo));
        Consumer<SnailTrails> later = race.andThen(x -> {
            x.set(0, 0);
            x.set(1, 1);
            x.set(2, 1);
            x.set(3, 1);
            x.pass(60);
        });
        Checks.sameState("13: restore() brings all back", race, later.andThen(SnailTrails::restore));
    }

    private static void whatIsOwedComesBack() {
        SnailTrails x = new SnailTrails();
        Checks.perform(x, "s2*0;s3*99;.4");
        Checks.due("22: owes(0, 1)", x.owes(0, 1), 1);
        x.pass(1);
        Checks.due("22: owes(0, 1)", x.owes(0, 1), 2);
        x.endsIn(0);
        x.bestLane(99, 1);
        Checks.due("22: owes(0, 1), it was only looked ahead", x.owes(0, 1), 2);
        x.undo();
        Checks.due("22: owes(0, 1)", x.owes(0, 1), 1);
    }
}
