import java.util.LinkedHashMap;
import java.util.Map;
import java.util.function.Consumer;

/** The boundary cases in HISTORY and ERRORS, and those of undo(), keep() and restore(). */
public final class HistoryEdgesTest {
    private static final int NONE = SnailTrails.NONE;
    private static final String DROPPED = "A history of at most 4 states is kept; when one more is recorded, the oldest one is dropped";

    private HistoryEdgesTest() {
    }

    public static void main(String[] args) {
        theConstants();
        fourStates();
        theFifthState();
        theFifthStateByEachAct();
        undoRemovesTheLatest();
        eachActRecords();
        whatRecordsNothing();
        oneSnapshot();
        noSnapshot();
        theSnapshotInPlaceOfTheOneThatWas();
        everythingBut();
        allThatComesBack();
        Checks.end();
    }

    private static void theConstants() {
        Checks.sentence(0, "Errors are reported by the constants below.");
        constant("UNKNOWN", -1);
        constant("BAD_VALUE", -2);
        constant("FULL", -3);
        constant("NOT_POSSIBLE", -4);
        constant("NONE", -5);
    }

    /** A constant that is named in a test is put there by its number as the test is compiled. */
    private static void constant(String name, int due) {
        try {
            Checks.due(name, SnailTrails.class.getField(name).getInt(null), due);
        } catch (ReflectiveOperationException missing) {
            Checks.holds("there is a constant " + name, false);
        }
    }

    /** Acts that answer neither an error nor NONE after setUp(), each told by its call. */
    private static Map<String, Consumer<SnailTrails>> acts() {
        Map<String, Consumer<SnailTrails>> acts = new LinkedHashMap<>();
        acts.put("setSnail(0, 7)", x -> x.setSnail(0, 7));
        acts.put("takeOff(0)", x -> x.takeOff(0));
        acts.put("setFrost(0, 0, 9)", x -> x.setFrost(0, 0, 9));
        acts.put("setFrost(2, 0, 4), as it is, of a trail", x -> x.setFrost(2, 0, 4));
        acts.put("set(0, 0)", x -> x.set(0, 0));
        acts.put("pass(5)", x -> x.pass(5));
        acts.put("perform()", SnailTrails::perform);
        acts.put("restore()", SnailTrails::restore);
        return acts;
    }

    /** Snail 0 in the row 1 of the lane 2, its trail below it, a snapshot, a sound text and two states kept. */
    private static void setUp(SnailTrails x) {
        Checks.write(x, "f5.19=0;f5.19=0");
        x.setSnail(2, 99);
        x.pass(1);
        x.keep();
        x.undo();
        x.undo();
        x.setSnail(2, 99);
        x.pass(1);
    }

    private static void fourStates() {
        Checks.sentence(0, DROPPED);
        SnailTrails x = new SnailTrails();
        for (int turn = 1; turn <= 6; turn++) {
            x.pass(1);
            Checks.due("count(13) after " + turn + " acts", x.count(13), Math.min(turn, 4));
        }
    }

    private static void theFifthState() {
        Checks.sentence(0, DROPPED);
        for (int acts = 1; acts <= 11; acts++) {
            SnailTrails x = new SnailTrails();
            for (int turn = 1; turn <= acts; turn++) {
                x.pass(1);
            }
            int kept = Math.min(acts, 4);
            for (int left = kept - 1; left >= 0; left--) {
                Checks.due("undo() after " + acts + " acts", x.undo(), left);
                Checks.due("count(0) after " + acts + " acts", x.count(0), acts - kept + left);
            }
            Checks.due("undo() after " + acts + " acts", x.undo(), NONE);
            Checks.due("count(0), the state before the oldest that is kept", x.count(0), acts - kept);
        }
    }

    private static void theFifthStateByEachAct() {
        Checks.sentence(0, DROPPED);
        acts().forEach((call, act) -> {
            SnailTrails x = new SnailTrails();
            setUp(x);
            x.setFrost(4, 4, 8);
            x.setFrost(4, 4, 7);
            Checks.due("count(13) before " + call, x.count(13), 4);
            act.accept(x);
            Checks.due("count(13) with " + call, x.count(13), 4);
            for (int left = 3; left >= 0; left--) {
                Checks.due("undo() of " + call + " or an act before it", x.undo(), left);
            }
            Checks.due("undo() of " + call + " and all that is kept", x.undo(), NONE);
            Checks.due("count(1), the first act stays done", x.count(1), 1);
            Checks.due("count(0), the second act is undone", x.count(0), 0);
        });
    }

    private static void undoRemovesTheLatest() {
        Checks.sentence(0, "undo() removes and restores the latest one");
        SnailTrails x = new SnailTrails();
        Checks.due("undo() of the empty history", x.undo(), NONE);
        x.pass(1);
        x.pass(2);
        Checks.due("undo()", x.undo(), 1);
        Checks.due("count(0)", x.count(0), 1);
        Checks.due("count(13)", x.count(13), 1);
        x.pass(7);
        Checks.due("count(13)", x.count(13), 2);
        Checks.due("undo(), of the act since", x.undo(), 1);
        Checks.due("count(0)", x.count(0), 1);
        Checks.due("undo()", x.undo(), 0);
        Checks.due("count(0)", x.count(0), 0);
        Checks.due("undo()", x.undo(), NONE);
    }

    private static void eachActRecords() {
        Checks.sentence(0, "Each call of a method that is described as an act, and returns no error and not NONE, records the state that was before it.");
        acts().forEach((call, act) -> {
            SnailTrails x = new SnailTrails();
            setUp(x);
            Checks.due("count(13) before " + call, x.count(13), 2);
            act.accept(x);
            Checks.due("count(13) after " + call, x.count(13), 3);
            Consumer<SnailTrails> before = HistoryEdgesTest::setUp;
            Checks.alike("undo() of " + call, before, before.andThen(act).andThen(SnailTrails::undo));
        });
    }

    private static void whatRecordsNothing() {
        Checks.sentence(0, "Each call of a method that is described as an act");
        SnailTrails x = new SnailTrails();
        setUp(x);
        x.type('x');
        Checks.due("count(13) after type()", x.count(13), 2);
        x.clearText();
        Checks.due("count(13) after clearText()", x.count(13), 2);
        x.keep();
        Checks.due("count(13) after keep()", x.count(13), 2);
        x.undo();
        Checks.due("count(13) after undo()", x.count(13), 1);
        x.undo();
        Checks.due("count(13) after undo()", x.count(13), 0);
    }

    private static void oneSnapshot() {
        Checks.sentence(0, "There is one snapshot, empty at first.");
        SnailTrails x = new SnailTrails();
        Checks.due("restore() at first", x.restore(), NONE);
        x.pass(3);
        Checks.due("keep()", x.keep(), 3);
        x.pass(3);
        Checks.due("keep()", x.keep(), 6);
        x.pass(3);
        Checks.due("restore()", x.restore(), 6);
        Checks.due("restore(), there is no other", x.restore(), 6);
        Checks.due("count(0)", x.count(0), 6);
    }

    private static void noSnapshot() {
        Checks.sentence(13, "NONE if there is no snapshot");
        Consumer<SnailTrails> race = x -> {
            x.setSnail(2, 50);
            x.pass(3);
        };
        SnailTrails x = new SnailTrails();
        race.accept(x);
        Checks.due("restore()", x.restore(), NONE);
        Checks.alike("restore() of no snapshot changes nothing", race, race.andThen(SnailTrails::restore));
    }

    private static void theSnapshotInPlaceOfTheOneThatWas() {
        Checks.sentence(12, "Takes a snapshot of the state, in place of the one that was.");
        Consumer<SnailTrails> race = x -> {
            x.setSnail(2, 50);
            x.pass(3);
        };
        Checks.alike("keep() twice is keep() once", race.andThen(SnailTrails::keep),
            x -> {
                x.keep();
                race.accept(x);
                x.keep();
            });
        SnailTrails x = new SnailTrails();
        race.andThen(SnailTrails::keep).andThen(SnailTrails::undo).accept(x);
        Checks.due("count(0), keep() is undone by no undo()", x.count(0), 0);
        Checks.due("restore()", x.restore(), 3);
        Checks.due("count(0), as it was at keep()", x.count(0), 3);
        Checks.due("snail(0, 1), as it was at keep()", x.snail(0, 1), 3);
    }

    private static void everythingBut() {
        Checks.sentence(0, "A state is everything but the text, the history, the snapshot and the latest stop.");
        SnailTrails x = new SnailTrails();
        x.pass(1);
        x.keep();
        x.pass(1);
        Checks.due("perform()", Checks.perform(x, "s3*1;s3*1"), SnailTrails.NOT_POSSIBLE);
        Checks.write(x, ".7");
        x.undo();
        Checks.due("count(14) after undo()", x.count(14), 2);
        Checks.due("stopped(0) after undo()", x.stopped(0), 1);
        Checks.due("stopped(1) after undo()", x.stopped(1), SnailTrails.NOT_POSSIBLE);
        Checks.due("undo()", x.undo(), 0);
        Checks.due("restore(), undo() of the state before keep() lets the snapshot be", x.restore(), 1);
        Checks.due("count(13) after restore()", x.count(13), 1);
        Checks.due("count(14) after restore()", x.count(14), 2);
        Checks.due("stopped(0) after restore()", x.stopped(0), 1);
        Checks.due("perform() after restore()", x.perform(), 1);
        Checks.due("count(0)", x.count(0), 8);
        Checks.due("restore()", x.restore(), 1);
        Checks.due("count(13), the history is no part of what comes back", x.count(13), 3);
        Checks.due("undo()", x.undo(), 2);
        Checks.due("count(0), of the state before restore()", x.count(0), 8);
    }

    /** In the turns that pass, all that is told of the snail 0 changes, and its trail in the first cell dries. */
    private static void allThatComesBack() {
        Checks.sentence(0, "A state is everything but the text, the history, the snapshot and the latest stop.");
        Consumer<SnailTrails> race = x -> Checks.perform(x, "s0*4;s1*20;s2*50;s3*99;.7");
        Consumer<SnailTrails> later = race.andThen(x -> x.pass(99));
        SnailTrails before = new SnailTrails();
        SnailTrails after = new SnailTrails();
        race.accept(before);
        later.accept(after);
        for (int what = 0; what < 10; what++) {
            Checks.holds("snail(0, " + what + ") changes", before.snail(0, what) != after.snail(0, what));
        }
        Checks.holds("owes(0, 1) changes", before.owes(0, 1) != after.owes(0, 1));
        Checks.holds("cell(0, 0, 1) changes", before.cell(0, 0, 1) != after.cell(0, 0, 1));
        Checks.alike("undo() brings all back", race, later.andThen(SnailTrails::undo));
        Checks.sameState("restore() brings all back", race, race.andThen(SnailTrails::keep).andThen(x -> x.pass(99)).andThen(SnailTrails::restore));
        Checks.sameState("undo() of restore() brings all back", later,
            race.andThen(SnailTrails::keep).andThen(x -> x.pass(99)).andThen(SnailTrails::restore).andThen(SnailTrails::undo));
        Checks.sameState("perform() that is stopped brings all back", race, race.andThen(x -> Checks.perform(x, ".99;s0*1;s0*1")));
    }
}
