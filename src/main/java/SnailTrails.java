import java.util.Arrays;

/** A race of snails up a frosted pane. What each call promises stands in ../shared/DOC.md. */
public final class SnailTrails {
    /** There is no such snail, cell or setting. */
    public static final int UNKNOWN = -1;
    /** Another argument is out of range. */
    public static final int BAD_VALUE = -2;
    /** There is no more room. */
    public static final int FULL = -3;
    /** This is not possible. */
    public static final int NOT_POSSIBLE = -4;
    /** There is no such thing; not an error. */
    public static final int NONE = -5;

    private static final int LANES = 6;
    private static final int ROWS = 20;
    private static final int CELLS = LANES * ROWS;
    private static final int RIM = ROWS - 1;
    /** What cellAt() tells of a place beside the pane. */
    private static final int OUTSIDE = -1;

    private static final int MOST_SNAILS = 8;
    /** One more than may be set, since bestLane() tries a further snail. */
    private static final int SNAIL_ROOM = MOST_SNAILS + 1;
    private static final int MOST_SLIME = 99;
    private static final int FIRST_FROST = 4;
    private static final int MOST_FROST = 9;
    private static final int MOST_TURNS = 99;
    private static final int LAST_TURN = 99999;
    /** How many turns endsIn() and bestLane() look ahead. */
    private static final int FORESIGHT = 300;

    /** How many lanes each step goes aside: straight, to the left, to the right. */
    private static final int[] SIDES = {0, -1, 1};
    private static final int TOO_LITTLE_SLIME = 3;
    private static final int NO_STEP = 4;

    private static final int FRESHNESS = 0;
    private static final int BORROWS_IN_A_ROW = 1;
    private static final int SLIME_OF_A_REST = 2;
    private static final int FROST_PERIOD = 3;
    private static final int[] FIRST_SETTINGS = {6, 2, 5, 4};
    private static final int[] LEAST_SETTINGS = {0, 1, 1, 1};
    private static final int[] MOST_SETTINGS = {99, 9, 20, 50};

    /** What a snail does, as snail() tells it. */
    private static final int CREEPS = 0;
    private static final int ENDED = 1;
    private static final int TAKEN_OFF = 2;

    /** Why a trail does not help, as reason() tells it. */
    private static final int HELPS = 0;
    private static final int NO_TRAIL = 1;
    private static final int OWN_TRAIL = 2;
    private static final int BORROWED_TOO_OFTEN = 3;

    private static final int MOST_CHARACTERS = 60;
    /** Each thing but the last takes three characters at least, its ";" among them. */
    private static final int MOST_THINGS = MOST_CHARACTERS / 3 + 1;
    private static final int NO_FAULT = -1;
    /** What perform() answers for a fault at the first character. */
    private static final int FIRST_FAULT = -100;

    private static final int MOST_STATES = 4;

    private final Pane pane = new Pane();
    /** The state before an act, or a copy of the pane on which the turns to come are tried. */
    private final Pane scratch = new Pane();
    private final Pane snapshot = new Pane();
    private boolean hasSnapshot = false;
    private final History history = new History();
    private final Race race = new Race();
    private final WaysUp waysUp = new WaysUp();
    private int stoppedThing = NONE;
    private int stoppedBy = NONE;

    public SnailTrails() {
    }

    // ---- the pane, snails

    public int setSnail(int lane, int slime) {
        scratch.copyFrom(pane);
        return recorded(pane.placeSnail(lane, slime));
    }

    public int takeOff(int snail) {
        scratch.copyFrom(pane);
        return recorded(pane.removeSnail(snail));
    }

    public int setFrost(int lane, int row, int frost) {
        scratch.copyFrom(pane);
        return recorded(pane.changeFrost(lane, row, frost));
    }

    public int set(int which, int value) {
        scratch.copyFrom(pane);
        return recorded(pane.changeSetting(which, value));
    }

    public int pass(int turns) {
        scratch.copyFrom(pane);
        return recorded(pane.letPass(turns));
    }

    /** Errors and NONE are all negative, and what an act answers when it was done never is. */
    private int recorded(int answer) {
        if (answer >= 0) {
            history.remember(scratch);
        }
        return answer;
    }

    // ---- texts

    public int type(char character) {
        return race.append(character);
    }

    public int clearText() {
        return race.empty();
    }

    public int perform() {
        int fault = race.read();
        if (fault != NO_FAULT) {
            return FIRST_FAULT - fault;
        }
        scratch.copyFrom(pane);
        for (int thing = 0; thing < race.things; thing++) {
            int answer = doThing(thing);
            if (answer < 0 && answer != NONE) {
                stoppedThing = thing;
                stoppedBy = answer;
                pane.copyFrom(scratch);
                return NOT_POSSIBLE;
            }
        }
        return recorded(race.things);
    }

    private int doThing(int thing) {
        if (thing < 0 || thing >= MOST_THINGS) {
            return UNKNOWN;
        }
        switch (race.signs[thing]) {
            case 's':
                return pane.placeSnail(race.lanes[thing], race.amounts[thing]);
            case 'f':
                return pane.changeFrost(race.lanes[thing], race.rows[thing], race.amounts[thing]);
            default:
                return pane.letPass(race.amounts[thing]);
        }
    }

    public int stopped(int what) {
        switch (what) {
            case 0:
                return stoppedThing;
            case 1:
                return stoppedBy;
            default:
                return BAD_VALUE;
        }
    }

    // ---- history

    public int undo() {
        return history.giveBack(pane);
    }

    public int keep() {
        snapshot.copyFrom(pane);
        hasSnapshot = true;
        return pane.turn;
    }

    public int restore() {
        if (!hasSnapshot) {
            return NONE;
        }
        scratch.copyFrom(pane);
        pane.copyFrom(snapshot);
        return recorded(pane.turn);
    }

    // ---- what is told

    public int snail(int snail, int what) {
        return pane.tellSnail(snail, what);
    }

    public int cell(int lane, int row, int what) {
        return pane.tellCell(lane, row, what);
    }

    public int cost(int snail, int step) {
        if (!pane.knows(snail)) {
            return UNKNOWN;
        }
        if (step < 0 || step >= SIDES.length) {
            return BAD_VALUE;
        }
        return pane.creeps(snail) ? pane.stepCost(snail, step) : NOT_POSSIBLE;
    }

    public int does(int snail) {
        if (!pane.knows(snail)) {
            return UNKNOWN;
        }
        return pane.creeps(snail) ? pane.choice(snail) : NOT_POSSIBLE;
    }

    public int reason(int snail, int lane, int row) {
        int cell = cellAt(lane, row);
        if (!pane.knows(snail) || cell == OUTSIDE) {
            return UNKNOWN;
        }
        return pane.whyNoHelp(snail, cell);
    }

    public int endsIn(int snail) {
        if (!pane.knows(snail)) {
            return UNKNOWN;
        }
        if (pane.hasEnded(snail)) {
            return 0;
        }
        if (!pane.creeps(snail)) {
            return NOT_POSSIBLE;
        }
        scratch.copyFrom(pane);
        return scratch.passUntilEnd(snail, FORESIGHT);
    }

    public int wayUp(int lane, int row, int way) {
        if (cellAt(lane, row) == OUTSIDE) {
            return UNKNOWN;
        }
        switch (way) {
            case 0:
                return waysUp.fromRimDown(pane, lane, row);
            case 1:
                return waysUp.leastSumFirst(pane, lane, row);
            default:
                return BAD_VALUE;
        }
    }

    public int leader() {
        return pane.findLeader();
    }

    public int owes(int snail, int other) {
        return pane.tellOwed(snail, other);
    }

    public int bestLane(int slime, int what) {
        if (slime < 0 || slime > MOST_SLIME || what < 0 || what > 1) {
            return BAD_VALUE;
        }
        int best = NONE;
        int turnsOfBest = FORESIGHT + 1;
        for (int lane = 0; lane < LANES; lane++) {
            // A later lane is better only if it takes fewer turns, so more need not be tried.
            int turns = turnsFrom(lane, slime, turnsOfBest - 1);
            if (turns != NONE) {
                best = lane;
                turnsOfBest = turns;
            }
        }
        return best == NONE || what == 0 ? best : turnsOfBest;
    }

    /** In how many turns one more snail in the lane would end; NONE if not within the most. */
    private int turnsFrom(int lane, int slime, int most) {
        if (pane.snailOn(lane, 0) != NONE) {
            return NONE;
        }
        scratch.copyFrom(pane);
        int snail = scratch.addSnail(lane, slime);
        return scratch.passUntilEnd(snail, most);
    }

    public int count(int what) {
        switch (what) {
            case 13:
                return history.size;
            case 14:
                return race.length;
            default:
                return pane.tellCount(what);
        }
    }

    private static int cellAt(int lane, int row) {
        if (lane < 0 || lane >= LANES || row < 0 || row >= ROWS) {
            return OUTSIDE;
        }
        return row * LANES + lane;
    }

    private static int sum(int[] numbers) {
        int sum = 0;
        for (int number : numbers) {
            sum += number;
        }
        return sum;
    }

    private static void copy(int[] from, int[] to) {
        System.arraycopy(from, 0, to, 0, Math.min(from.length, to.length));
    }

    /** A state: all that undo() and restore() bring back, and the rules by which it changes. */
    private static final class Pane {
        private final int[] frostOf = new int[CELLS];
        /** Whose trail a cell has, and its age: NONE for both without a trail. */
        private final int[] trailOf = new int[CELLS];
        private final int[] ageOf = new int[CELLS];

        /** Rows by the snail's number; behind the last snail they are as at first. */
        private final int[] laneOf = new int[SNAIL_ROOM];
        private final int[] rowOf = new int[SNAIL_ROOM];
        private final int[] slimeOf = new int[SNAIL_ROOM];
        private final int[] doingOf = new int[SNAIL_ROOM];
        private final int[] rankOf = new int[SNAIL_ROOM];
        private final int[] stepsOf = new int[SNAIL_ROOM];
        private final int[] borrowsOf = new int[SNAIL_ROOM];
        private final int[] restsOf = new int[SNAIL_ROOM];
        private final int[] lenderOf = new int[SNAIL_ROOM];
        private final int[] inARowOf = new int[SNAIL_ROOM];
        /** By the snail that borrowed, then by the one whose trail it was. */
        private final int[][] owed = new int[SNAIL_ROOM][SNAIL_ROOM];

        private final int[] settings = FIRST_SETTINGS.clone();
        private int snails = 0;
        private int turn = 0;

        Pane() {
            Arrays.fill(frostOf, FIRST_FROST);
            Arrays.fill(trailOf, NONE);
            Arrays.fill(ageOf, NONE);
            Arrays.fill(rankOf, NONE);
            Arrays.fill(lenderOf, NONE);
        }

        void copyFrom(Pane other) {
            copy(other.frostOf, frostOf);
            copy(other.trailOf, trailOf);
            copy(other.ageOf, ageOf);
            copy(other.laneOf, laneOf);
            copy(other.rowOf, rowOf);
            copy(other.slimeOf, slimeOf);
            copy(other.doingOf, doingOf);
            copy(other.rankOf, rankOf);
            copy(other.stepsOf, stepsOf);
            copy(other.borrowsOf, borrowsOf);
            copy(other.restsOf, restsOf);
            copy(other.lenderOf, lenderOf);
            copy(other.inARowOf, inARowOf);
            for (int snail = 0; snail < SNAIL_ROOM; snail++) {
                copy(other.owed[snail], owed[snail]);
            }
            copy(other.settings, settings);
            snails = other.snails;
            turn = other.turn;
        }

        // The acts: each answers as the public method does, and changes nothing on an error or NONE.

        int placeSnail(int lane, int slime) {
            if (lane < 0 || lane >= LANES) {
                return UNKNOWN;
            }
            if (slime < 0 || slime > MOST_SLIME) {
                return BAD_VALUE;
            }
            if (snailOn(lane, 0) != NONE) {
                return NOT_POSSIBLE;
            }
            return snails < MOST_SNAILS ? addSnail(lane, slime) : FULL;
        }

        /** Does not mind how many may be set, only how many there is room for. */
        int addSnail(int lane, int slime) {
            int snail = snails;
            if (snail < 0 || snail >= SNAIL_ROOM) {
                return FULL;
            }
            laneOf[snail] = lane;
            rowOf[snail] = 0;
            slimeOf[snail] = slime;
            snails++;
            return snail;
        }

        int removeSnail(int snail) {
            if (!knows(snail)) {
                return UNKNOWN;
            }
            if (!creeps(snail)) {
                return NOT_POSSIBLE;
            }
            doingOf[snail] = TAKEN_OFF;
            return rowOf[snail];
        }

        int changeFrost(int lane, int row, int frost) {
            int cell = cellAt(lane, row);
            if (cell == OUTSIDE) {
                return UNKNOWN;
            }
            if (frost < 0 || frost > MOST_FROST) {
                return BAD_VALUE;
            }
            int previous = frostOf[cell];
            if (previous == frost && trailOf[cell] == NONE) {
                return NONE;
            }
            frostOf[cell] = frost;
            clearTrail(cell);
            return previous;
        }

        int changeSetting(int which, int value) {
            if (which < 0 || which >= settings.length) {
                return UNKNOWN;
            }
            if (value < LEAST_SETTINGS[which] || value > MOST_SETTINGS[which]) {
                return BAD_VALUE;
            }
            int previous = settings[which];
            if (previous == value) {
                return NONE;
            }
            settings[which] = value;
            dryTrails(0);
            return previous;
        }

        int letPass(int turns) {
            if (turns < 1 || turns > MOST_TURNS) {
                return BAD_VALUE;
            }
            if (turn + turns > LAST_TURN) {
                return FULL;
            }
            int endedBefore = howManyAre(ENDED);
            for (int passed = 0; passed < turns; passed++) {
                passTurn();
            }
            return howManyAre(ENDED) - endedBefore;
        }

        /** In how many turns the snail ends, these turns having passed; NONE if not within the most. */
        int passUntilEnd(int snail, int most) {
            for (int turns = 1; turns <= most; turns++) {
                passTurn();
                if (hasEnded(snail)) {
                    return turns;
                }
            }
            return NONE;
        }

        // A turn.

        private void passTurn() {
            for (int snail = 0; snail < snails; snail++) {
                if (creeps(snail)) {
                    int step = choice(snail);
                    if (step < SIDES.length) {
                        takeStep(snail, step);
                    } else {
                        rest(snail);
                    }
                }
            }
            dryTrails(1);
            turn++;
            int period = settings[FROST_PERIOD];
            if (period > 0 && turn % period == 0) {
                growFrost();
            }
        }

        /** The step that a snail takes, or why it rests. */
        int choice(int snail) {
            int best = NO_STEP;
            int leastCost = 0;
            for (int step = 0; step < SIDES.length; step++) {
                int price = stepCost(snail, step);
                if (price != NONE && (best == NO_STEP || price < leastCost)) {
                    best = step;
                    leastCost = price;
                }
            }
            return knows(snail) && leastCost > slimeOf[snail] ? TOO_LITTLE_SLIME : best;
        }

        /** What the step costs a snail that creeps; NONE if there is no such step. */
        int stepCost(int snail, int step) {
            if (!knows(snail) || step < 0 || step >= SIDES.length) {
                return NONE;
            }
            int lane = laneOf[snail] + SIDES[step];
            int row = rowOf[snail] + 1;
            int cell = cellAt(lane, row);
            if (cell == OUTSIDE || snailOn(lane, row) != NONE) {
                return NONE;
            }
            int why = whyNoHelp(snail, cell);
            return why == HELPS || why == OWN_TRAIL ? 1 : priceOf(cell);
        }

        int whyNoHelp(int snail, int cell) {
            if (snail < 0 || snail >= snails || cell < 0 || cell >= CELLS) {
                return UNKNOWN;
            }
            int owner = trailOf[cell];
            if (owner == NONE) {
                return NO_TRAIL;
            }
            if (owner == snail) {
                return OWN_TRAIL;
            }
            boolean tooOften = lenderOf[snail] == owner && inARowOf[snail] >= settings[BORROWS_IN_A_ROW];
            return tooOften ? BORROWED_TOO_OFTEN : HELPS;
        }

        private void takeStep(int snail, int step) {
            int price = stepCost(snail, step);
            if (price == NONE) {
                return;
            }
            int left = cellAt(laneOf[snail], rowOf[snail]);
            int lane = laneOf[snail] + SIDES[step];
            int row = rowOf[snail] + 1;
            int entered = cellAt(lane, row);
            if (left == OUTSIDE || entered == OUTSIDE) {
                return;
            }
            noteLender(snail, whyNoHelp(snail, entered) == HELPS ? trailOf[entered] : NONE);
            slimeOf[snail] -= price;
            stepsOf[snail]++;
            trailOf[left] = snail;
            ageOf[left] = 0;
            laneOf[snail] = lane;
            rowOf[snail] = row;
            if (row == RIM) {
                rankOf[snail] = howManyAre(ENDED) + 1;
                doingOf[snail] = ENDED;
            }
        }

        private void rest(int snail) {
            slimeOf[snail] = Math.min(slimeOf[snail] + settings[SLIME_OF_A_REST], MOST_SLIME);
            restsOf[snail]++;
            noteLender(snail, NONE);
        }

        /** Whose trail the latest step borrowed: NONE for a step without one, and for a rest. */
        private void noteLender(int snail, int lender) {
            if (!knows(lender)) {
                lenderOf[snail] = NONE;
                inARowOf[snail] = 0;
                return;
            }
            inARowOf[snail] = lenderOf[snail] == lender ? inARowOf[snail] + 1 : 1;
            lenderOf[snail] = lender;
            borrowsOf[snail]++;
            owed[snail][lender]++;
        }

        private void dryTrails(int turns) {
            for (int cell = 0; cell < CELLS; cell++) {
                if (trailOf[cell] != NONE) {
                    ageOf[cell] += turns;
                    if (ageOf[cell] > settings[FRESHNESS]) {
                        clearTrail(cell);
                    }
                }
            }
        }

        private void clearTrail(int cell) {
            trailOf[cell] = NONE;
            ageOf[cell] = NONE;
        }

        private void growFrost() {
            for (int cell = 0; cell < CELLS; cell++) {
                if (trailOf[cell] == NONE && frostOf[cell] < MOST_FROST) {
                    frostOf[cell]++;
                }
            }
        }

        // What is told.

        boolean knows(int snail) {
            return snail >= 0 && snail < snails;
        }

        boolean creeps(int snail) {
            return knows(snail) && doingOf[snail] == CREEPS;
        }

        boolean hasEnded(int snail) {
            return knows(snail) && doingOf[snail] == ENDED;
        }

        /** The snail on a cell, or NONE; a snail that does not creep any more is on none. */
        int snailOn(int lane, int row) {
            for (int snail = 0; snail < snails; snail++) {
                if (doingOf[snail] == CREEPS && laneOf[snail] == lane && rowOf[snail] == row) {
                    return snail;
                }
            }
            return NONE;
        }

        /** What it costs to come to a cell without a trail. */
        int priceOf(int cell) {
            return cell >= 0 && cell < CELLS ? 1 + frostOf[cell] : NONE;
        }

        int tellSnail(int snail, int what) {
            if (!knows(snail)) {
                return UNKNOWN;
            }
            switch (what) {
                case 0:
                    return laneOf[snail];
                case 1:
                    return rowOf[snail];
                case 2:
                    return slimeOf[snail];
                case 3:
                    return doingOf[snail];
                case 4:
                    return rankOf[snail];
                case 5:
                    return stepsOf[snail];
                case 6:
                    return borrowsOf[snail];
                case 7:
                    return restsOf[snail];
                case 8:
                    return lenderOf[snail];
                case 9:
                    return inARowOf[snail];
                default:
                    return BAD_VALUE;
            }
        }

        int tellCell(int lane, int row, int what) {
            int cell = cellAt(lane, row);
            if (cell == OUTSIDE) {
                return UNKNOWN;
            }
            switch (what) {
                case 0:
                    return frostOf[cell];
                case 1:
                    return trailOf[cell];
                case 2:
                    return ageOf[cell];
                case 3:
                    return snailOn(lane, row);
                default:
                    return BAD_VALUE;
            }
        }

        int tellOwed(int snail, int other) {
            if (!knows(snail) || !knows(other)) {
                return UNKNOWN;
            }
            return snail == other ? BAD_VALUE : owed[snail][other];
        }

        int tellCount(int what) {
            switch (what) {
                case 0:
                    return turn;
                case 1:
                    return snails;
                case 2:
                    return howManyAre(CREEPS);
                case 3:
                    return howManyAre(ENDED);
                case 4:
                    return howManyTrails();
                case 5:
                    return sum(frostOf);
                case 6:
                    return sum(stepsOf);
                case 7:
                    return sum(borrowsOf);
                case 8:
                    return sum(restsOf);
                default:
                    return what >= 9 && what < 9 + settings.length ? settings[what - 9] : BAD_VALUE;
            }
        }

        private int howManyAre(int doing) {
            int many = 0;
            for (int snail = 0; snail < snails; snail++) {
                if (doingOf[snail] == doing) {
                    many++;
                }
            }
            return many;
        }

        private int howManyTrails() {
            int many = 0;
            for (int cell = 0; cell < CELLS; cell++) {
                if (trailOf[cell] != NONE) {
                    many++;
                }
            }
            return many;
        }

        int findLeader() {
            int best = NONE;
            for (int snail = 0; snail < snails; snail++) {
                if (creeps(snail) && (best == NONE || isAhead(snail, best))) {
                    best = snail;
                }
            }
            return best;
        }

        private boolean isAhead(int snail, int other) {
            if (rowOf[snail] != rowOf[other]) {
                return rowOf[snail] > rowOf[other];
            }
            return slimeOf[snail] > slimeOf[other];
        }
    }

    /** The text, and the things that it tells when it is read as a race. */
    private static final class Race {
        private static final int TEXT_END = -1;

        private final char[] text = new char[MOST_CHARACTERS];
        private int length = 0;

        /** How far the text is read: where it is at fault, the index of the fault. */
        private int at = 0;
        private int things = 0;
        /** Rows by the thing's number in the race; what a thing does not tell is left as it was. */
        private final int[] signs = new int[MOST_THINGS];
        private final int[] lanes = new int[MOST_THINGS];
        private final int[] rows = new int[MOST_THINGS];
        private final int[] amounts = new int[MOST_THINGS];

        int append(char character) {
            if (length < 0 || length >= MOST_CHARACTERS) {
                return FULL;
            }
            text[length] = character;
            length++;
            return length;
        }

        int empty() {
            int previous = length;
            length = 0;
            return previous;
        }

        /** Answers the fault of the text, or NO_FAULT. */
        int read() {
            at = 0;
            things = 0;
            for (int thing = 0; thing < MOST_THINGS; thing++) {
                if (!readThing(thing)) {
                    return at;
                }
                things++;
                if (at == length) {
                    return NO_FAULT;
                }
                if (!readSign(';')) {
                    return at;
                }
            }
            return at;
        }

        private boolean readThing(int thing) {
            int sign = signHere();
            if (thing < 0 || thing >= MOST_THINGS || sign == TEXT_END) {
                return false;
            }
            signs[thing] = sign;
            switch (sign) {
                case 's':
                    at++;
                    return readNumber(lanes, thing, 0, LANES - 1) && readSign('*')
                        && readNumber(amounts, thing, 0, MOST_SLIME);
                case 'f':
                    at++;
                    return readNumber(lanes, thing, 0, LANES - 1) && readSign('.')
                        && readNumber(rows, thing, 0, RIM) && readSign('=')
                        && readNumber(amounts, thing, 0, MOST_FROST);
                case '.':
                    at++;
                    return readNumber(amounts, thing, 1, MOST_TURNS);
                default:
                    return false;
            }
        }

        private boolean readSign(char sign) {
            if (signHere() != sign) {
                return false;
            }
            at++;
            return true;
        }

        /** A digit that would make the number too great is left, and no sign can stand there. */
        private boolean readNumber(int[] into, int thing, int least, int most) {
            int number = digitHere();
            if (number < least || number > most || thing < 0 || thing >= into.length) {
                return false;
            }
            at++;
            int next = digitHere();
            if (number > 0 && next >= 0 && number * 10 + next <= most) {
                number = number * 10 + next;
                at++;
            }
            into[thing] = number;
            return true;
        }

        private int signHere() {
            return at >= 0 && at < length && at < MOST_CHARACTERS ? text[at] : TEXT_END;
        }

        /** Negative if no digit is here; no number begins below 0. */
        private int digitHere() {
            int sign = signHere();
            return sign >= '0' && sign <= '9' ? sign - '0' : -1;
        }
    }

    /** The latest states, the oldest of which makes room for one more. */
    private static final class History {
        private final Pane[] states = new Pane[MOST_STATES];
        private int size = 0;
        /** Where the next state goes: if there is no more room, in place of the oldest. */
        private int next = 0;

        History() {
            for (int place = 0; place < MOST_STATES; place++) {
                states[place] = new Pane();
            }
        }

        void remember(Pane before) {
            Pane state = stateAt(next);
            if (state == null) {
                return;
            }
            state.copyFrom(before);
            next = (next + 1) % MOST_STATES;
            size = Math.min(size + 1, MOST_STATES);
        }

        /** Answers how many states are left, or NONE if there was none to give back. */
        int giveBack(Pane pane) {
            int latest = (next + MOST_STATES - 1) % MOST_STATES;
            Pane state = stateAt(latest);
            if (size == 0 || state == null) {
                return NONE;
            }
            pane.copyFrom(state);
            next = latest;
            size--;
            return size;
        }

        private Pane stateAt(int place) {
            return place >= 0 && place < states.length ? states[place] : null;
        }
    }

    /** The least sums of ways up, told in two ways that do not lean on one another. */
    private static final class WaysUp {
        /** More than any way up can cost. */
        private static final int FAR = 1000000;

        private final int[] sums = new int[CELLS];
        /** 1 for a cell whose sum can not become less any more. */
        private final int[] settled = new int[CELLS];

        /** Here a cell's sum is that from the cell up to the rim. */
        int fromRimDown(Pane pane, int lane, int row) {
            int begin = cellAt(lane, row);
            if (begin == OUTSIDE) {
                return UNKNOWN;
            }
            for (int cell = CELLS - 1; cell >= row * LANES; cell--) {
                int cellRow = cell / LANES;
                sums[cell] = cellRow == RIM ? 0 : leastAbove(pane, cell % LANES, cellRow);
            }
            return sums[begin];
        }

        private int leastAbove(Pane pane, int lane, int row) {
            int least = FAR;
            for (int side : SIDES) {
                int above = cellAt(lane + side, row + 1);
                if (above != OUTSIDE) {
                    least = Math.min(least, pane.priceOf(above) + sums[above]);
                }
            }
            return least;
        }

        /** Here a cell's sum is that from where the way begins up to the cell. */
        int leastSumFirst(Pane pane, int lane, int row) {
            Arrays.fill(sums, FAR);
            Arrays.fill(settled, 0);
            int begin = cellAt(lane, row);
            if (begin == OUTSIDE) {
                return UNKNOWN;
            }
            sums[begin] = 0;
            for (int round = 0; round < CELLS; round++) {
                int cell = nearest();
                if (cell == OUTSIDE || cell / LANES == RIM) {
                    return cell == OUTSIDE ? NONE : sums[cell];
                }
                settled[cell] = 1;
                reachAbove(pane, cell);
            }
            return NONE;
        }

        /** The cell with the least sum that is not settled; OUTSIDE if none is reached. */
        private int nearest() {
            int best = OUTSIDE;
            int least = FAR;
            for (int cell = 0; cell < CELLS; cell++) {
                if (settled[cell] == 0 && sums[cell] < least) {
                    best = cell;
                    least = sums[cell];
                }
            }
            return best;
        }

        private void reachAbove(Pane pane, int cell) {
            for (int side : SIDES) {
                int above = cellAt(cell % LANES + side, cell / LANES + 1);
                if (above != OUTSIDE) {
                    sums[above] = Math.min(sums[above], sums[cell] + pane.priceOf(above));
                }
            }
        }
    }
}
