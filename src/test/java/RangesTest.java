import java.util.function.BiFunction;
import java.util.function.IntUnaryOperator;

/** What is too small and too large for each argument of each promise, and all that lies between. */
public final class RangesTest {
    private static final int UNKNOWN = SnailTrails.UNKNOWN;
    private static final int BAD_VALUE = SnailTrails.BAD_VALUE;
    private static final String LANES = "`lane`: 0 to 5";
    private static final String ROWS = "`row`: 0 to 19";
    private static final String SNAILS = "`snail`: a snail";

    private RangesTest() {
    }

    public static void main(String[] args) {
        setSnail();
        takeOff();
        setFrost();
        set();
        pass();
        type();
        stopped();
        snail();
        cell();
        cost();
        doesAndEndsIn();
        reason();
        wayUp();
        owes();
        bestLane();
        count();
        Checks.end();
    }

    /** The call answers the error for all that is too small or too large, and never between. */
    private static void range(int promise, String words, IntUnaryOperator call, int least, int most, int error) {
        Checks.sentence(promise, words);
        between(call, least, most, error);
        beside(call, least, most, error);
    }

    private static void between(IntUnaryOperator call, int least, int most, int error) {
        for (int value = least; value <= most; value++) {
            Checks.holds(value + " is no error", call.applyAsInt(value) != error);
        }
    }

    private static void beside(IntUnaryOperator call, int least, int most, int error) {
        for (int far : new int[] {1, 2, 100, 256, 65536}) {
            Checks.due(least - far + ", too small,", call.applyAsInt(least - far), error);
            Checks.due(most + far + ", too large,", call.applyAsInt(most + far), error);
        }
        Checks.due("the least int", call.applyAsInt(Integer.MIN_VALUE), error);
        Checks.due("the greatest int", call.applyAsInt(Integer.MAX_VALUE), error);
    }

    /** A snail is one that was set: of each number of snails, 0 to 8, those from that number on are unknown. */
    private static void snails(int promise, String words, BiFunction<SnailTrails, Integer, Integer> call) {
        Checks.sentence(promise, words);
        for (int set = 0; set <= 8; set++) {
            int snails = set;
            IntUnaryOperator one = snail -> call.apply(ofSnails(snails), snail);
            between(one, 0, snails - 1, UNKNOWN);
            beside(one, 0, snails - 1, UNKNOWN);
        }
    }

    private static SnailTrails ofSnails(int snails) {
        SnailTrails x = new SnailTrails();
        x.set(2, 1);
        for (int snail = 0; snail < snails; snail++) {
            x.setSnail(snail % 6, 5);
            if (snail % 6 == 5) {
                x.pass(1);
            }
        }
        return x;
    }

    private static void setSnail() {
        range(2, LANES, lane -> new SnailTrails().setSnail(lane, 50), 0, 5, UNKNOWN);
        range(2, "`slime`: 0 to 99", slime -> new SnailTrails().setSnail(3, slime), 0, 99, BAD_VALUE);
        for (int lane = 0; lane < 6; lane++) {
            for (int slime = 0; slime < 100; slime++) {
                SnailTrails x = new SnailTrails();
                Checks.due("setSnail(" + lane + ", " + slime + ")", x.setSnail(lane, slime), 0);
                Checks.due("snail(0, 0) of setSnail(" + lane + ", " + slime + ")", x.snail(0, 0), lane);
                Checks.due("snail(0, 2) of setSnail(" + lane + ", " + slime + ")", x.snail(0, 2), slime);
            }
        }
    }

    private static void takeOff() {
        snails(3, SNAILS, SnailTrails::takeOff);
    }

    private static void setFrost() {
        range(4, LANES, lane -> new SnailTrails().setFrost(lane, 0, 9), 0, 5, UNKNOWN);
        range(4, ROWS, row -> new SnailTrails().setFrost(0, row, 9), 0, 19, UNKNOWN);
        range(4, "`frost`: 0 to 9", frost -> new SnailTrails().setFrost(5, 19, frost), 0, 9, BAD_VALUE);
        for (int frost = 0; frost <= 9; frost++) {
            SnailTrails x = new SnailTrails();
            Checks.due("setFrost(5, 19, " + frost + ")", x.setFrost(5, 19, frost), frost == 4 ? SnailTrails.NONE : 4);
            Checks.due("cell(5, 19, 0) of the frost " + frost, x.cell(5, 19, 0), frost);
        }
    }

    private static void set() {
        range(5, "`which`: 0 to 3", which -> new SnailTrails().set(which, 7), 0, 3, UNKNOWN);
        int[] first = {6, 2, 5, 4};
        int[] least = {0, 1, 1, 1};
        int[] most = {99, 9, 20, 50};
        for (int number = 0; number < 4; number++) {
            int which = number;
            range(5, "`value`: in its range", value -> new SnailTrails().set(which, value), least[which], most[which], BAD_VALUE);
            for (int value = least[which]; value <= most[which]; value++) {
                SnailTrails x = new SnailTrails();
                int due = value == first[which] ? SnailTrails.NONE : first[which];
                Checks.due("set(" + which + ", " + value + ")", x.set(which, value), due);
                Checks.due("count(" + (9 + which) + ") of " + value, x.count(9 + which), value);
            }
        }
    }

    private static void pass() {
        range(6, "`turns`: 1 to 99", turns -> new SnailTrails().pass(turns), 1, 99, BAD_VALUE);
        range(6, "`turns`: 1 to 99", turns -> after(50).pass(turns), 1, 99, BAD_VALUE);
        for (int turns = 1; turns <= 99; turns++) {
            SnailTrails x = after(50);
            Checks.due("pass(" + turns + ")", x.pass(turns), 0);
            Checks.due("count(0) of pass(" + turns + ")", x.count(0), 50 + turns);
        }
    }

    private static SnailTrails after(int turns) {
        SnailTrails x = new SnailTrails();
        x.pass(turns);
        return x;
    }

    private static void type() {
        Checks.sentence(7, "`character`: any character");
        for (int character = 0; character <= Character.MAX_VALUE; character++) {
            int length = new SnailTrails().type((char) character);
            if (length != 1) {
                Checks.due("type() of the character " + character, length, 1);
            }
        }
        Checks.due("type() of the last character", new SnailTrails().type(Character.MAX_VALUE), 1);
    }

    private static void stopped() {
        SnailTrails x = new SnailTrails();
        range(10, "`what`: 0 for its number in the race, from 0, 1 for the error", x::stopped, 0, 1, BAD_VALUE);
    }

    private static void snail() {
        snails(14, SNAILS, (x, snail) -> x.snail(snail, 0));
        SnailTrails x = Panes.ofEachKind();
        for (int number = 0; number < 3; number++) {
            int snail = number;
            range(14, "`what`: 0 for its lane", what -> x.snail(snail, what), 0, 9, BAD_VALUE);
        }
    }

    private static void cell() {
        SnailTrails x = new SnailTrails();
        range(15, LANES, lane -> x.cell(lane, 0, 0), 0, 5, UNKNOWN);
        range(15, ROWS, row -> x.cell(0, row, 0), 0, 19, UNKNOWN);
        range(15, "`what`: 0 for its frost", what -> x.cell(5, 19, what), 0, 3, BAD_VALUE);
    }

    private static void cost() {
        snails(16, SNAILS, (x, snail) -> x.cost(snail, 0));
        SnailTrails x = Panes.ofEachKind();
        for (int number = 0; number < 3; number++) {
            int snail = number;
            range(16, "`step`: 0 to 2", step -> x.cost(snail, step), 0, 2, BAD_VALUE);
        }
    }

    private static void doesAndEndsIn() {
        snails(17, SNAILS, SnailTrails::does);
        snails(19, SNAILS, SnailTrails::endsIn);
    }

    private static void reason() {
        snails(18, SNAILS, (x, snail) -> x.reason(snail, 0, 0));
        SnailTrails x = Panes.ofEachKind();
        range(18, LANES, lane -> x.reason(0, lane, 0), 0, 5, UNKNOWN);
        range(18, ROWS, row -> x.reason(0, 0, row), 0, 19, UNKNOWN);
    }

    private static void wayUp() {
        SnailTrails x = new SnailTrails();
        for (int number = 0; number < 2; number++) {
            int way = number;
            range(20, LANES, lane -> x.wayUp(lane, 0, way), 0, 5, UNKNOWN);
            range(20, "`row`: 0 to 19: where the way begins (its own cell costs nothing)", row -> x.wayUp(5, row, way), 0, 19, UNKNOWN);
        }
        range(20, "`way`: 0: told row by row from the rim down; 1: told by the cell with the least sum first", way -> x.wayUp(0, 0, way), 0, 1, BAD_VALUE);
        range(20, "`way`: 0: told row by row from the rim down; 1: told by the cell with the least sum first", way -> x.wayUp(0, 19, way), 0, 1, BAD_VALUE);
    }

    private static void owes() {
        snails(22, SNAILS, (x, snail) -> x.owes(snail, 0));
        snails(22, "`other`: another one", (x, other) -> x.owes(0, other));
    }

    private static void bestLane() {
        SnailTrails x = new SnailTrails();
        range(23, "`slime`: 0 to 99", slime -> x.bestLane(slime, 0), 0, 99, BAD_VALUE);
        range(23, "`what`: 0 for the lane, 1 for in how many turns it would end", what -> x.bestLane(50, what), 0, 1, BAD_VALUE);
    }

    private static void count() {
        SnailTrails x = new SnailTrails();
        range(24, "`what`: 0 for the turn", what -> x.count(what), 0, 14, BAD_VALUE);
    }
}
