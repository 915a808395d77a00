import java.util.LinkedHashMap;
import java.util.Map;
import java.util.function.Consumer;
import java.util.function.ToIntFunction;

/**
 * "A call that returns an error or NONE changes nothing (but for the latest stop of perform())": after each
 * such call all that can be told, and all that undo(), restore() and perform() then bring, is as without it.
 */
public final class RefusedTest {
    private static final int UNKNOWN = SnailTrails.UNKNOWN;
    private static final int BAD_VALUE = SnailTrails.BAD_VALUE;
    private static final int FULL = SnailTrails.FULL;
    private static final int NOT_POSSIBLE = SnailTrails.NOT_POSSIBLE;
    private static final int NONE = SnailTrails.NONE;
    private static final String NOTHING = "A call that returns an error or NONE changes nothing (but for the latest stop of perform()).";

    /** A call, and the error or NONE that is due. */
    private record Refused(ToIntFunction<SnailTrails> call, int due) {
    }

    private RefusedTest() {
    }

    public static void main(String[] args) {
        actsOnAFullPane();
        tellsOnAFullPane();
        faultsOnAFullPane();
        onAnEmptyPane();
        atTheLastTurn();
        theStopOfPerform();
        whatIsOnlyTold();
        Checks.end();
    }

    /**
     * Eight snails were set: 0 and 1 have ended, 2 was taken off, 3 to 7 creep, the last in the row 0 of the
     * lane 4; four states, a snapshot, a stop, and a sound text of 60 characters, at the turn 42.
     */
    private static void fullPane(SnailTrails x) {
        Checks.perform(x, "s4*9;s4*9");
        Checks.perform(x, "s2*99;s4*99;.40");
        x.setSnail(1, 50);
        x.takeOff(2);
        x.keep();
        Checks.perform(x, "s0*99;s1*20;s2*80;s3*99;.1");
        x.set(0, 9);
        x.setSnail(4, 0);
        x.pass(1);
        Checks.write(x, "f0.1=1;f1.1=2;f2.1=3;f3.1=5;f4.1=6;f5.1=7;.10;f0.19=0;.2;.19");
    }

    private static void refused(Consumer<SnailTrails> before, Map<String, Refused> calls) {
        calls.forEach((call, refused) -> {
            SnailTrails x = new SnailTrails();
            before.accept(x);
            Checks.due(call, refused.call.applyAsInt(x), refused.due);
            Checks.alike(call + " changes nothing", before, before.andThen(refused.call::applyAsInt));
        });
    }

    private static void actsOnAFullPane() {
        Checks.sentence(0, NOTHING);
        Map<String, Refused> calls = new LinkedHashMap<>();
        calls.put("setSnail(6, 5)", new Refused(x -> x.setSnail(6, 5), UNKNOWN));
        calls.put("setSnail(-1, 5)", new Refused(x -> x.setSnail(-1, 5), UNKNOWN));
        calls.put("setSnail(5, 100)", new Refused(x -> x.setSnail(5, 100), BAD_VALUE));
        calls.put("setSnail(5, -1)", new Refused(x -> x.setSnail(5, -1), BAD_VALUE));
        calls.put("setSnail(4, 5)", new Refused(x -> x.setSnail(4, 5), NOT_POSSIBLE));
        calls.put("setSnail(5, 5)", new Refused(x -> x.setSnail(5, 5), FULL));
        calls.put("takeOff(8)", new Refused(x -> x.takeOff(8), UNKNOWN));
        calls.put("takeOff(-1)", new Refused(x -> x.takeOff(-1), UNKNOWN));
        calls.put("takeOff(0), ended", new Refused(x -> x.takeOff(0), NOT_POSSIBLE));
        calls.put("takeOff(2), taken off", new Refused(x -> x.takeOff(2), NOT_POSSIBLE));
        calls.put("setFrost(6, 0, 1)", new Refused(x -> x.setFrost(6, 0, 1), UNKNOWN));
        calls.put("setFrost(0, 20, 1)", new Refused(x -> x.setFrost(0, 20, 1), UNKNOWN));
        calls.put("setFrost(0, 0, 10), of a trail", new Refused(x -> x.setFrost(0, 0, 10), BAD_VALUE));
        calls.put("setFrost(0, 0, -1), of a trail", new Refused(x -> x.setFrost(0, 0, -1), BAD_VALUE));
        calls.put("setFrost(5, 19, 9)", new Refused(x -> x.setFrost(5, 19, 9), NONE));
        calls.put("set(4, 1)", new Refused(x -> x.set(4, 1), UNKNOWN));
        calls.put("set(0, 100)", new Refused(x -> x.set(0, 100), BAD_VALUE));
        calls.put("set(3, 0)", new Refused(x -> x.set(3, 0), BAD_VALUE));
        calls.put("set(0, 9)", new Refused(x -> x.set(0, 9), NONE));
        calls.put("pass(0)", new Refused(x -> x.pass(0), BAD_VALUE));
        calls.put("pass(100)", new Refused(x -> x.pass(100), BAD_VALUE));
        calls.put("type('9')", new Refused(x -> x.type('9'), FULL));
        refused(RefusedTest::fullPane, calls);
    }

    private static void tellsOnAFullPane() {
        Checks.sentence(0, NOTHING);
        Map<String, Refused> calls = new LinkedHashMap<>();
        calls.put("stopped(2)", new Refused(x -> x.stopped(2), BAD_VALUE));
        calls.put("snail(8, 0)", new Refused(x -> x.snail(8, 0), UNKNOWN));
        calls.put("snail(0, 10)", new Refused(x -> x.snail(0, 10), BAD_VALUE));
        calls.put("cell(6, 0, 0)", new Refused(x -> x.cell(6, 0, 0), UNKNOWN));
        calls.put("cell(0, 0, 4)", new Refused(x -> x.cell(0, 0, 4), BAD_VALUE));
        calls.put("cell(5, 19, 1)", new Refused(x -> x.cell(5, 19, 1), NONE));
        calls.put("cost(8, 0)", new Refused(x -> x.cost(8, 0), UNKNOWN));
        calls.put("cost(7, 3)", new Refused(x -> x.cost(7, 3), BAD_VALUE));
        calls.put("cost(0, 0)", new Refused(x -> x.cost(0, 0), NOT_POSSIBLE));
        calls.put("cost(3, 1)", new Refused(x -> x.cost(3, 1), NONE));
        calls.put("does(8)", new Refused(x -> x.does(8), UNKNOWN));
        calls.put("does(2)", new Refused(x -> x.does(2), NOT_POSSIBLE));
        calls.put("reason(8, 0, 0)", new Refused(x -> x.reason(8, 0, 0), UNKNOWN));
        calls.put("endsIn(8)", new Refused(x -> x.endsIn(8), UNKNOWN));
        calls.put("endsIn(2)", new Refused(x -> x.endsIn(2), NOT_POSSIBLE));
        calls.put("wayUp(6, 0, 0)", new Refused(x -> x.wayUp(6, 0, 0), UNKNOWN));
        calls.put("wayUp(0, 0, 2)", new Refused(x -> x.wayUp(0, 0, 2), BAD_VALUE));
        calls.put("owes(8, 0)", new Refused(x -> x.owes(8, 0), UNKNOWN));
        calls.put("owes(0, 0)", new Refused(x -> x.owes(0, 0), BAD_VALUE));
        calls.put("bestLane(100, 0)", new Refused(x -> x.bestLane(100, 0), BAD_VALUE));
        calls.put("count(15)", new Refused(x -> x.count(15), BAD_VALUE));
        refused(RefusedTest::fullPane, calls);
    }

    /** A text in place of the one of 60 characters; its faults and stops leave all else as it is. */
    private static void faultsOnAFullPane() {
        Checks.sentence(0, NOTHING);
        Map<String, Integer> faults = Map.of("", 0, "x", 0, "f5.1=0;.3;s5", 12, "f5.1=0;.3;s5*5x", 14, "f5.1=0;.3;", 10);
        faults.forEach((text, fault) -> {
            Consumer<SnailTrails> before = x -> {
                fullPane(x);
                Checks.write(x, text);
            };
            refused(before, Map.of("perform() of " + text, new Refused(SnailTrails::perform, -100 - fault)));
        });
        Consumer<SnailTrails> stopped = x -> {
            fullPane(x);
            Checks.perform(x, "f5.1=0;.3;f0.0=0;s5*5");
        };
        refused(stopped, Map.of("perform(), stopped once more by the same", new Refused(SnailTrails::perform, NOT_POSSIBLE)));
    }

    private static void onAnEmptyPane() {
        Checks.sentence(0, NOTHING);
        Map<String, Refused> calls = new LinkedHashMap<>();
        calls.put("takeOff(0)", new Refused(x -> x.takeOff(0), UNKNOWN));
        calls.put("setFrost(0, 0, 4)", new Refused(x -> x.setFrost(0, 0, 4), NONE));
        calls.put("set(0, 6)", new Refused(x -> x.set(0, 6), NONE));
        calls.put("perform()", new Refused(SnailTrails::perform, -100));
        calls.put("stopped(0)", new Refused(x -> x.stopped(0), NONE));
        calls.put("stopped(1)", new Refused(x -> x.stopped(1), NONE));
        calls.put("undo()", new Refused(SnailTrails::undo, NONE));
        calls.put("restore()", new Refused(SnailTrails::restore, NONE));
        calls.put("leader()", new Refused(SnailTrails::leader, NONE));
        calls.put("snail(0, 0)", new Refused(x -> x.snail(0, 0), UNKNOWN));
        calls.put("owes(0, 1)", new Refused(x -> x.owes(0, 1), UNKNOWN));
        calls.put("endsIn(0)", new Refused(x -> x.endsIn(0), UNKNOWN));
        refused(x -> { }, calls);
        Consumer<SnailTrails> noLane = x -> {
            for (int lane = 0; lane < 6; lane++) {
                x.setSnail(lane, 5 * lane);
            }
        };
        refused(noLane, Map.of("bestLane(50, 0)", new Refused(x -> x.bestLane(50, 0), NONE)));
    }

    private static void atTheLastTurn() {
        Checks.sentence(0, NOTHING);
        Consumer<SnailTrails> before = x -> {
            Panes.passTo(x, 99998);
            x.setSnail(2, 99);
        };
        Map<String, Refused> calls = new LinkedHashMap<>();
        calls.put("pass(2)", new Refused(x -> x.pass(2), FULL));
        calls.put("pass(99)", new Refused(x -> x.pass(99), FULL));
        refused(before, calls);
    }

    private static void theStopOfPerform() {
        Checks.sentence(0, "(but for the latest stop of perform())");
        SnailTrails x = new SnailTrails();
        fullPane(x);
        Checks.due("stopped(0)", x.stopped(0), 1);
        Checks.due("stopped(1)", x.stopped(1), NOT_POSSIBLE);
        Checks.due("perform()", Checks.perform(x, "f5.1=0;.3;f0.0=0;s5*5"), NOT_POSSIBLE);
        Checks.due("stopped(0)", x.stopped(0), 3);
        Checks.due("stopped(1)", x.stopped(1), FULL);
    }

    private static void whatIsOnlyTold() {
        Checks.sentence(0, "Nothing is promised beyond the answers and state changes described above");
        Consumer<SnailTrails> before = RefusedTest::fullPane;
        Checks.alike("what is told changes nothing", before, before.andThen(x -> {
            for (int snail = 3; snail < 8; snail++) {
                x.endsIn(snail);
                x.does(snail);
                x.cost(snail, 2);
                x.reason(snail, 0, 0);
                x.owes(snail, 0);
                x.snail(snail, 8);
            }
            x.wayUp(2, 0, 0);
            x.wayUp(2, 0, 1);
            x.bestLane(50, 0);
            x.bestLane(0, 1);
            x.leader();
            x.cell(0, 0, 1);
            x.count(13);
            x.stopped(0);
        }));
    }
}
