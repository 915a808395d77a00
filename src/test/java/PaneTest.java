/** Promises 1 to 5: a new object, and the acts on the pane but for pass(). */
public final class PaneTest {
    private static final int UNKNOWN = SnailTrails.UNKNOWN;
    private static final int BAD_VALUE = SnailTrails.BAD_VALUE;
    private static final int FULL = SnailTrails.FULL;
    private static final int NOT_POSSIBLE = SnailTrails.NOT_POSSIBLE;
    private static final int NONE = SnailTrails.NONE;
    private static final int[] FAR_OFF = {-1, Integer.MIN_VALUE, Integer.MAX_VALUE};

    private PaneTest() {
    }

    public static void main(String[] args) {
        aNewObject();
        setSnailSetsIt();
        setSnailRefuses();
        setSnailUpToEight();
        takeOff();
        setFrost();
        setFrostTakesTheTrail();
        setChangesTheSettings();
        setRefuses();
        setDriesTrails();
        Checks.end();
    }

    private static void aNewObject() {
        SnailTrails x = new SnailTrails();
        int[] counts = {0, 0, 0, 0, 0, 480, 0, 0, 0, 6, 2, 5, 4, 0, 0};
        for (int what = 0; what < counts.length; what++) {
            Checks.due("1: count(" + what + ")", x.count(what), counts[what]);
        }
        for (int lane = 0; lane < 6; lane++) {
            for (int row = 0; row < 20; row++) {
                String cell = "1: cell(" + lane + ", " + row + ", ";
                Checks.due(cell + "0)", x.cell(lane, row, 0), 4);
                Checks.due(cell + "1)", x.cell(lane, row, 1), NONE);
                Checks.due(cell + "2)", x.cell(lane, row, 2), NONE);
                Checks.due(cell + "3)", x.cell(lane, row, 3), NONE);
            }
        }
        Checks.due("1: leader()", x.leader(), NONE);
        Checks.due("1: snail(0, 0)", x.snail(0, 0), UNKNOWN);
        Checks.due("1: undo()", x.undo(), NONE);
        Checks.due("1: restore()", x.restore(), NONE);
        Checks.due("1: stopped(0)", x.stopped(0), NONE);
        Checks.due("1: stopped(1)", x.stopped(1), NONE);
        Checks.due("1: clearText()", x.clearText(), 0);
        SnailTrails y = new SnailTrails();
        x.setSnail(0, 0);
        Checks.due("1: another object's count(1)", y.count(1), 0);
    }

    private static void setSnailSetsIt() {
        SnailTrails x = new SnailTrails();
        Checks.due("2: setSnail(5, 99)", x.setSnail(5, 99), 0);
        Checks.due("2: setSnail(0, 0)", x.setSnail(0, 0), 1);
        int[][] told = {{5, 0, 99, 0, NONE, 0, 0, 0, NONE, 0}, {0, 0, 0, 0, NONE, 0, 0, 0, NONE, 0}};
        for (int snail = 0; snail < told.length; snail++) {
            for (int what = 0; what < 10; what++) {
                Checks.due("2: snail(" + snail + ", " + what + ")", x.snail(snail, what), told[snail][what]);
            }
        }
        Checks.due("2: cell(5, 0, 3)", x.cell(5, 0, 3), 0);
        Checks.due("2: cell(0, 0, 3)", x.cell(0, 0, 3), 1);
        Checks.due("2: cell(0, 0, 1), no trail yet", x.cell(0, 0, 1), NONE);
        Checks.due("2: count(13), both are acts", x.count(13), 2);
    }

    private static void setSnailRefuses() {
        SnailTrails x = new SnailTrails();
        x.setSnail(2, 50);
        for (int far : FAR_OFF) {
            Checks.due("2: setSnail(" + far + ", 5)", x.setSnail(far, 5), UNKNOWN);
            Checks.due("2: setSnail(1, " + far + ")", x.setSnail(1, far), BAD_VALUE);
        }
        Checks.due("2: setSnail(6, 5)", x.setSnail(6, 5), UNKNOWN);
        Checks.due("2: setSnail(1, 100)", x.setSnail(1, 100), BAD_VALUE);
        Checks.due("2: setSnail(6, 100), UNKNOWN first", x.setSnail(6, 100), UNKNOWN);
        Checks.due("2: setSnail(2, 100), BAD_VALUE first", x.setSnail(2, 100), BAD_VALUE);
        Checks.due("2: setSnail(2, 5)", x.setSnail(2, 5), NOT_POSSIBLE);
        Checks.due("2: count(1), nothing changed", x.count(1), 1);
        Checks.due("2: count(13), nothing recorded", x.count(13), 1);
    }

    private static void setSnailUpToEight() {
        SnailTrails x = new SnailTrails();
        for (int lane = 0; lane < 6; lane++) {
            Checks.due("2: setSnail(" + lane + ", 99)", x.setSnail(lane, 99), lane);
        }
        Checks.due("2: setSnail(3, 9) there is one", x.setSnail(3, 9), NOT_POSSIBLE);
        x.takeOff(3);
        Checks.due("2: setSnail(3, 9) it was taken off", x.setSnail(3, 9), 6);
        x.pass(1);
        Checks.due("2: setSnail(0, 9) it went on", x.setSnail(0, 9), 7);
        Checks.due("2: setSnail(0, 9) NOT_POSSIBLE first", x.setSnail(0, 9), NOT_POSSIBLE);
        Checks.due("2: setSnail(1, 9) eight were set", x.setSnail(1, 9), FULL);
        x.takeOff(0);
        Checks.due("2: setSnail(1, 9) eight were set ever", x.setSnail(1, 9), FULL);
        Checks.due("2: setSnail(1, 100) BAD_VALUE first", x.setSnail(1, 100), BAD_VALUE);
        Checks.due("2: count(1)", x.count(1), 8);
    }

    private static void takeOff() {
        SnailTrails x = new SnailTrails();
        Checks.due("3: takeOff(0) of none", x.takeOff(0), UNKNOWN);
        x.setSnail(1, 99);
        x.setSnail(4, 99);
        x.pass(3);
        for (int far : FAR_OFF) {
            Checks.due("3: takeOff(" + far + ")", x.takeOff(far), UNKNOWN);
        }
        Checks.due("3: takeOff(2)", x.takeOff(2), UNKNOWN);
        Checks.due("3: takeOff(0)", x.takeOff(0), 3);
        Checks.due("3: snail(0, 3)", x.snail(0, 3), 2);
        Checks.due("3: snail(0, 0), the last one", x.snail(0, 0), 1);
        Checks.due("3: snail(0, 1), the last one", x.snail(0, 1), 3);
        Checks.due("3: snail(0, 4), it does not end", x.snail(0, 4), NONE);
        Checks.due("3: cell(1, 3, 3)", x.cell(1, 3, 3), NONE);
        Checks.due("3: cell(1, 3, 1), no trail there", x.cell(1, 3, 1), NONE);
        Checks.due("3: cell(1, 2, 1), its trail stays", x.cell(1, 2, 1), 0);
        Checks.due("3: count(2)", x.count(2), 1);
        Checks.due("3: count(3)", x.count(3), 0);
        Checks.due("3: takeOff(0) again", x.takeOff(0), NOT_POSSIBLE);
        x.pass(1);
        Checks.due("3: snail(0, 1) it creeps no more", x.snail(0, 1), 3);
        Checks.due("3: undo()", x.undo(), 3);
        Checks.due("3: snail(0, 3) after undo() of pass(1)", x.snail(0, 3), 2);
        Checks.due("3: undo()", x.undo(), 2);
        Checks.due("3: snail(0, 3) after undo()", x.snail(0, 3), 0);
        Checks.due("3: snail(0, 1) after undo()", x.snail(0, 1), 3);
        x.pass(90);
        Checks.due("3: snail(0, 3) it has ended", x.snail(0, 3), 1);
        Checks.due("3: takeOff(0) it has ended", x.takeOff(0), NOT_POSSIBLE);
    }

    private static void setFrost() {
        SnailTrails x = new SnailTrails();
        Checks.due("4: setFrost(0, 0, 0)", x.setFrost(0, 0, 0), 4);
        Checks.due("4: setFrost(0, 0, 9)", x.setFrost(0, 0, 9), 0);
        Checks.due("4: setFrost(5, 19, 7)", x.setFrost(5, 19, 7), 4);
        Checks.due("4: setFrost(5, 19, 7), it is so", x.setFrost(5, 19, 7), NONE);
        Checks.due("4: count(13)", x.count(13), 3);
        Checks.due("4: count(5)", x.count(5), 480 + 5 + 3);
        Checks.due("4: cell(5, 19, 0)", x.cell(5, 19, 0), 7);
        Checks.due("4: cell(4, 19, 0)", x.cell(4, 19, 0), 4);
        for (int far : FAR_OFF) {
            Checks.due("4: setFrost(" + far + ", 0, 4)", x.setFrost(far, 0, 4), UNKNOWN);
            Checks.due("4: setFrost(0, " + far + ", 4)", x.setFrost(0, far, 4), UNKNOWN);
            Checks.due("4: setFrost(1, 0, " + far + ")", x.setFrost(1, 0, far), BAD_VALUE);
        }
        Checks.due("4: setFrost(6, 0, 10), UNKNOWN first", x.setFrost(6, 0, 10), UNKNOWN);
        Checks.due("4: setFrost(0, 20, 10), UNKNOWN first", x.setFrost(0, 20, 10), UNKNOWN);
        Checks.due("4: setFrost(0, 19, 10)", x.setFrost(0, 19, 10), BAD_VALUE);
        Checks.due("4: count(5), nothing changed", x.count(5), 488);
        Checks.due("11: undo() of setFrost()", x.undo(), 2);
        Checks.due("11: cell(5, 19, 0)", x.cell(5, 19, 0), 4);
        Checks.due("11: cell(0, 0, 0)", x.cell(0, 0, 0), 9);
    }

    private static void setFrostTakesTheTrail() {
        SnailTrails x = new SnailTrails();
        x.setSnail(2, 99);
        x.pass(2);
        Checks.due("4: count(4)", x.count(4), 2);
        Checks.due("4: setFrost(2, 1, 4) of a trail", x.setFrost(2, 1, 4), 4);
        Checks.due("4: cell(2, 1, 1)", x.cell(2, 1, 1), NONE);
        Checks.due("4: cell(2, 1, 2)", x.cell(2, 1, 2), NONE);
        Checks.due("4: setFrost(2, 1, 4) of none", x.setFrost(2, 1, 4), NONE);
        Checks.due("4: setFrost(2, 0, 8)", x.setFrost(2, 0, 8), 4);
        Checks.due("4: count(4)", x.count(4), 0);
        Checks.due("4: setFrost(2, 2, 9) under the snail", x.setFrost(2, 2, 9), 4);
        Checks.due("4: cell(2, 2, 3)", x.cell(2, 2, 3), 0);
    }

    private static void setChangesTheSettings() {
        SnailTrails x = new SnailTrails();
        int[] first = {6, 2, 5, 4};
        int[] least = {0, 1, 1, 1};
        int[] most = {99, 9, 20, 50};
        for (int which = 0; which < 4; which++) {
            String set = "5: set(" + which + ", ";
            Checks.due(set + "as it is)", x.set(which, first[which]), NONE);
            Checks.due(set + "below)", x.set(which, least[which] - 1), BAD_VALUE);
            Checks.due(set + "above)", x.set(which, most[which] + 1), BAD_VALUE);
            Checks.due(set + "least)", x.set(which, least[which]), first[which]);
            Checks.due(set + "most)", x.set(which, most[which]), least[which]);
            Checks.due("5: count(" + (9 + which) + ")", x.count(9 + which), most[which]);
        }
        Checks.due("5: count(13)", x.count(13), 4);
    }

    private static void setRefuses() {
        SnailTrails x = new SnailTrails();
        for (int far : FAR_OFF) {
            Checks.due("5: set(" + far + ", 2)", x.set(far, 2), UNKNOWN);
            Checks.due("5: set(0, " + far + ")", x.set(0, far), BAD_VALUE);
            Checks.due("5: set(3, " + far + ")", x.set(3, far), BAD_VALUE);
        }
        Checks.due("5: set(4, -1), UNKNOWN first", x.set(4, -1), UNKNOWN);
        Checks.due("5: count(13)", x.count(13), 0);
    }

    private static void setDriesTrails() {
        SnailTrails x = new SnailTrails();
        x.setSnail(2, 99);
        x.pass(4);
        Checks.due("5: count(4)", x.count(4), 4);
        Checks.due("5: set(1, 9) lets trails be", x.set(1, 9), 2);
        Checks.due("5: count(4)", x.count(4), 4);
        Checks.due("5: set(0, 2), not above is fresh", x.set(0, 2), 6);
        Checks.due("5: cell(2, 1, 1), the age 3", x.cell(2, 1, 1), NONE);
        Checks.due("5: cell(2, 1, 2)", x.cell(2, 1, 2), NONE);
        Checks.due("5: cell(2, 2, 2)", x.cell(2, 2, 2), 2);
        Checks.due("5: cell(2, 3, 2)", x.cell(2, 3, 2), 1);
        Checks.due("5: set(0, 99) brings none back", x.set(0, 99), 2);
        Checks.due("5: count(4)", x.count(4), 2);
        x.undo();
        x.undo();
        Checks.due("5: count(4) after undo()", x.count(4), 4);
    }
}
