import java.util.Random;

/** Runs of some 500 calls, the same each time, on SnailTrails and on PlainRace: all answers are alike. */
public final class RandomTest {
    private static final int RUNS = 1000;
    /** An object is good for 512 calls; a race can take 62 of them, and the last questions 181. */
    private static final int CALLS = 512 - 62 - 181;
    /** The last questions are so many that each run asks one of so many. */
    private static final int LOTS = 5;
    private static final String SIGNS = "sf.*=;0123456789";

    private final SnailTrails x = new SnailTrails();
    private final PlainRace plain = new PlainRace();
    private final Random random;
    private final int run;
    private int calls = 0;
    private int questions = 0;

    private RandomTest(int run) {
        this.run = run;
        random = new Random(run);
    }

    public static void main(String[] args) {
        for (int run = 0; run < RUNS && Checks.wrong() == 0; run++) {
            new RandomTest(run).go();
        }
        Checks.end();
    }

    private void go() {
        while (calls < CALLS && Checks.wrong() == 0) {
            if (random.nextInt(3) == 0) {
                act();
            } else {
                ask();
            }
        }
        askALotOfAll();
        Checks.holds("run " + run + " has 512 calls at most, not " + calls, calls <= 512);
    }

    /** Mostly from the range; now and then beside it. */
    private int some(int least, int most) {
        if (random.nextInt(40) == 0) {
            int[] beside = {least - 1, most + 1, -1, Integer.MIN_VALUE, Integer.MAX_VALUE};
            return beside[random.nextInt(beside.length)];
        }
        return least + random.nextInt(most - least + 1);
    }

    private void due(String call, int got, int want) {
        calls++;
        Checks.due("run " + run + ": " + call, got, want);
    }

    private void act() {
        int a = some(0, 5);
        int b = some(0, 99);
        switch (random.nextInt(16)) {
            case 0, 1, 2 -> due("setSnail(" + a + ", " + b + ")", x.setSnail(a, b), plain.setSnail(a, b));
            case 3 -> takeOff(some(0, 7));
            case 4, 5 -> setFrost(a, some(0, 19), some(0, 9));
            case 6 -> set(some(0, 3));
            case 7, 8, 9, 10 -> pass(random.nextInt(4) == 0 ? b : 1 + random.nextInt(4));
            case 11, 12 -> perform();
            case 13 -> due("undo()", x.undo(), plain.undo());
            case 14 -> due("keep()", x.keep(), plain.keep());
            default -> restore();
        }
    }

    private void takeOff(int snail) {
        if (random.nextInt(4) == 0) {
            due("takeOff(" + snail + ")", x.takeOff(snail), plain.takeOff(snail));
        }
    }

    private void setFrost(int lane, int row, int frost) {
        due("setFrost(" + lane + ", " + row + ", " + frost + ")", x.setFrost(lane, row, frost), plain.setFrost(lane, row, frost));
    }

    private void set(int which) {
        int[] most = {99, 9, 20, 50};
        int high = which >= 0 && which < 4 ? most[which] : 5;
        int value = random.nextBoolean() ? some(0, Math.min(9, high)) : some(1, high);
        due("set(" + which + ", " + value + ")", x.set(which, value), plain.set(which, value));
    }

    private void pass(int turns) {
        due("pass(" + turns + ")", x.pass(turns), plain.pass(turns));
    }

    private void restore() {
        if (random.nextInt(3) == 0) {
            due("restore()", x.restore(), plain.restore());
        }
    }

    private void perform() {
        StringBuilder text = new StringBuilder();
        int things = 1 + random.nextInt(7);
        for (int thing = 0; thing < things; thing++) {
            text.append(thing == 0 ? "" : ";").append(thing());
        }
        int spoil = random.nextInt(4);
        if (spoil == 0) {
            text.setCharAt(random.nextInt(text.length()), SIGNS.charAt(random.nextInt(SIGNS.length())));
        } else if (spoil == 1) {
            text.setLength(random.nextInt(text.length() + 1));
        }
        due("clearText()", x.clearText(), plain.clearText());
        for (int at = 0; at < text.length(); at++) {
            due("type()", x.type(text.charAt(at)), plain.type(text.charAt(at)));
        }
        due("perform() of " + text, x.perform(), plain.perform());
    }

    private String thing() {
        int lane = random.nextInt(6);
        switch (random.nextInt(3)) {
            case 0:
                return "s" + lane + "*" + random.nextInt(100);
            case 1:
                return "f" + lane + "." + random.nextInt(20) + "=" + random.nextInt(10);
            default:
                return "." + (1 + random.nextInt(random.nextBoolean() ? 5 : 99));
        }
    }

    private void ask() {
        int snail = some(0, 7);
        int lane = some(0, 5);
        int row = some(0, 19);
        switch (random.nextInt(12)) {
            case 0, 1 -> snail(snail, some(0, 9));
            case 2 -> cell(lane, row, some(0, 3));
            case 3, 4 -> cost(snail, some(0, 2));
            case 5 -> due("does(" + snail + ")", x.does(snail), plain.does(snail));
            case 6 -> reason(snail, lane, row);
            case 7 -> due("endsIn(" + snail + ")", x.endsIn(snail), plain.endsIn(snail));
            case 8 -> wayUp(lane, row, some(0, 1));
            case 9 -> due("leader()", x.leader(), plain.leader());
            case 10 -> askSeldom(snail, some(0, 7));
            default -> count(some(0, 14));
        }
    }

    private void askSeldom(int snail, int what) {
        due("owes(" + snail + ", " + what + ")", x.owes(snail, what), plain.owes(snail, what));
        due("stopped(" + what + ")", x.stopped(what), plain.stopped(what));
        if (random.nextInt(4) == 0) {
            int slime = some(0, 99);
            int which = some(0, 1);
            due("bestLane(" + slime + ", " + which + ")", x.bestLane(slime, which), plain.bestLane(slime, which));
        }
    }

    private void snail(int snail, int what) {
        due("snail(" + snail + ", " + what + ")", x.snail(snail, what), plain.snail(snail, what));
    }

    private void cell(int lane, int row, int what) {
        due("cell(" + lane + ", " + row + ", " + what + ")", x.cell(lane, row, what), plain.cell(lane, row, what));
    }

    private void cost(int snail, int step) {
        due("cost(" + snail + ", " + step + ")", x.cost(snail, step), plain.cost(snail, step));
    }

    private void reason(int snail, int lane, int row) {
        due("reason(" + snail + ", " + lane + ", " + row + ")", x.reason(snail, lane, row), plain.reason(snail, lane, row));
    }

    private void wayUp(int lane, int row, int way) {
        due("wayUp(" + lane + ", " + row + ", " + way + ")", x.wayUp(lane, row, way), plain.wayUp(lane, row, way));
    }

    private void count(int what) {
        due("count(" + what + ")", x.count(what), plain.count(what));
    }

    private boolean isOfThisLot() {
        questions++;
        return questions % LOTS == run % LOTS;
    }

    private void askALotOfAll() {
        for (int number = 0; number < 8 * 21; number++) {
            if (isOfThisLot()) {
                askOfSnail(number / 21, number % 21);
            }
        }
        for (int number = 0; number < 120 * 6; number++) {
            if (isOfThisLot()) {
                askOfCell(number / 6 % 6, number / 36, number % 6);
            }
        }
        for (int what = 0; what < 15; what++) {
            if (isOfThisLot()) {
                count(what);
            }
        }
    }

    private void askOfSnail(int snail, int question) {
        if (question < 10) {
            snail(snail, question);
        } else if (question < 18) {
            int other = question - 10;
            due("owes(" + snail + ", " + other + ")", x.owes(snail, other), plain.owes(snail, other));
        } else {
            cost(snail, question - 18);
        }
    }

    private void askOfCell(int lane, int row, int question) {
        if (question < 4) {
            cell(lane, row, question);
        } else {
            wayUp(lane, row, question - 4);
        }
    }
}
