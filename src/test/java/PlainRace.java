import java.util.ArrayDeque;
import java.util.ArrayList;
import java.util.Arrays;
import java.util.Deque;
import java.util.HashMap;
import java.util.List;
import java.util.Map;
import java.util.regex.Matcher;
import java.util.regex.Pattern;

/**
 * The document told a second time, for RandomTest: snails remember each thing they did, and all else
 * is counted from that; states are copied whole; a fault is where no sound text begins so.
 */
final class PlainRace {
    private static final int UNKNOWN = -1;
    private static final int BAD_VALUE = -2;
    private static final int FULL = -3;
    private static final int NOT_POSSIBLE = -4;
    private static final int NONE = -5;
    private static final int RESTED = -1;
    private static final int PLAIN_STEP = -2;
    private static final String THING =
        "(s[0-5]\\*(0|[1-9][0-9]?)|f[0-5]\\.([02-9]|1[0-9]?)=[0-9]|\\.[1-9][0-9]?)";
    private static final Pattern SOUND = Pattern.compile(THING + "(;" + THING + ")*");

    private record Trail(int owner, int leftAt) {
    }

    private record Place(int lane, int row) {
        boolean isOnPane() {
            return lane >= 0 && lane < 6 && row >= 0 && row < 20;
        }
    }

    private static final class Snail {
        Place place;
        int slime;
        boolean taken;
        int rank = NONE;
        /** RESTED, PLAIN_STEP or whose trail was borrowed, in the order in which it happened. */
        List<Integer> deeds = new ArrayList<>();

        Snail copy() {
            Snail other = new Snail();
            other.place = place;
            other.slime = slime;
            other.taken = taken;
            other.rank = rank;
            other.deeds = new ArrayList<>(deeds);
            return other;
        }

        boolean creeps() {
            return !taken && rank == NONE;
        }

        int lender() {
            return deeds.isEmpty() || deeds.get(deeds.size() - 1) < 0 ? NONE : deeds.get(deeds.size() - 1);
        }

        int inARow() {
            int many = 0;
            while (many < deeds.size() && lender() != NONE && deeds.get(deeds.size() - 1 - many) == lender()) {
                many++;
            }
            return many;
        }

        int rests() {
            return (int) deeds.stream().filter(deed -> deed == RESTED).count();
        }

        int borrows() {
            return (int) deeds.stream().filter(deed -> deed >= 0).count();
        }

        int borrowsFrom(int other) {
            return (int) deeds.stream().filter(deed -> deed == other).count();
        }
    }

    private static final class State {
        int turn = 0;
        int[] settings = {6, 2, 5, 4};
        List<Snail> snails = new ArrayList<>();
        Map<Place, Integer> frost = new HashMap<>();
        Map<Place, Trail> trails = new HashMap<>();

        State() {
            for (int lane = 0; lane < 6; lane++) {
                for (int row = 0; row < 20; row++) {
                    frost.put(new Place(lane, row), 4);
                }
            }
        }

        State copy() {
            State other = new State();
            other.turn = turn;
            other.settings = settings.clone();
            for (Snail snail : snails) {
                other.snails.add(snail.copy());
            }
            other.frost = new HashMap<>(frost);
            other.trails = new HashMap<>(trails);
            return other;
        }

        int at(Place place) {
            for (int number = 0; number < snails.size(); number++) {
                if (snails.get(number).creeps() && snails.get(number).place.equals(place)) {
                    return number;
                }
            }
            return NONE;
        }

        Place target(int number, int step) {
            Place from = snails.get(number).place;
            int lane = step == 1 ? from.lane - 1 : step == 2 ? from.lane + 1 : from.lane;
            return new Place(lane, from.row + 1);
        }

        boolean isStep(Place place) {
            return place.isOnPane() && at(place) == NONE;
        }

        int reason(int number, Place place) {
            Trail trail = trails.get(place);
            Snail snail = snails.get(number);
            if (trail == null) {
                return 1;
            }
            if (trail.owner == number) {
                return 2;
            }
            int size = snail.deeds.size();
            if (size < settings[1]) {
                return 0;
            }
            return snail.deeds.subList(size - settings[1], size).stream().allMatch(deed -> deed == trail.owner) ? 3 : 0;
        }

        int cost(int number, Place place) {
            int reason = reason(number, place);
            return reason == 0 || reason == 2 ? 1 : 1 + frost.get(place);
        }

        int does(int number) {
            int best = 4;
            for (int step = 2; step >= 0; step--) {
                Place place = target(number, step);
                if (isStep(place) && (best == 4 || cost(number, place) <= cost(number, target(number, best)))) {
                    best = step;
                }
            }
            return best != 4 && cost(number, target(number, best)) > snails.get(number).slime ? 3 : best;
        }

        void creep(int number) {
            Snail snail = snails.get(number);
            int step = does(number);
            if (step > 2) {
                snail.slime = Math.min(99, snail.slime + settings[2]);
                snail.deeds.add(RESTED);
                return;
            }
            Place to = target(number, step);
            snail.slime -= cost(number, to);
            snail.deeds.add(reason(number, to) == 0 ? trails.get(to).owner : PLAIN_STEP);
            trails.put(snail.place, new Trail(number, turn));
            snail.place = to;
            if (to.row == 19) {
                snail.rank = 1 + ended();
            }
        }

        int ended() {
            return (int) snails.stream().filter(snail -> snail.rank != NONE).count();
        }

        void dry() {
            trails.values().removeIf(trail -> turn - trail.leftAt > settings[0]);
        }

        void pass() {
            for (int number = 0; number < snails.size(); number++) {
                if (snails.get(number).creeps()) {
                    creep(number);
                }
            }
            turn++;
            dry();
            if (turn % settings[3] == 0) {
                frost.replaceAll((place, old) -> trails.containsKey(place) ? old : Math.min(9, old + 1));
            }
        }

        int add(int lane, int slime) {
            Snail snail = new Snail();
            snail.place = new Place(lane, 0);
            snail.slime = slime;
            snails.add(snail);
            return snails.size() - 1;
        }

        int endsIn(int number) {
            State other = copy();
            for (int turns = 0; turns <= 300; turns++) {
                if (other.snails.get(number).rank != NONE) {
                    return turns;
                }
                other.pass();
            }
            return NONE;
        }

        int wayUp(Place from) {
            int[] sums = new int[6];
            for (int row = 18; row >= from.row; row--) {
                int[] below = new int[6];
                Arrays.fill(below, Integer.MAX_VALUE);
                for (int lane = 0; lane < 6; lane++) {
                    for (int to = 0; to < 6; to++) {
                        if (Math.abs(to - lane) < 2) {
                            below[lane] = Math.min(below[lane], sums[to] + 1 + frost.get(new Place(to, row + 1)));
                        }
                    }
                }
                sums = below;
            }
            return sums[from.lane];
        }
    }

    private State state = new State();
    private State snapshot = null;
    private final Deque<State> history = new ArrayDeque<>();
    private final StringBuilder text = new StringBuilder();
    private int[] stop = {NONE, NONE};

    private int act(int answer, State before) {
        if (answer >= 0) {
            history.addLast(before);
            if (history.size() > 4) {
                history.removeFirst();
            }
        }
        return answer;
    }

    int setSnail(int lane, int slime) {
        State before = state.copy();
        return act(place(lane, slime), before);
    }

    private int place(int lane, int slime) {
        if (lane < 0 || lane > 5) {
            return UNKNOWN;
        }
        if (slime < 0 || slime > 99) {
            return BAD_VALUE;
        }
        if (state.at(new Place(lane, 0)) != NONE) {
            return NOT_POSSIBLE;
        }
        return state.snails.size() == 8 ? FULL : state.add(lane, slime);
    }

    int takeOff(int snail) {
        if (isNone(snail)) {
            return UNKNOWN;
        }
        if (!state.snails.get(snail).creeps()) {
            return NOT_POSSIBLE;
        }
        State before = state.copy();
        state.snails.get(snail).taken = true;
        return act(state.snails.get(snail).place.row, before);
    }

    int setFrost(int lane, int row, int frost) {
        State before = state.copy();
        return act(freeze(lane, row, frost), before);
    }

    private int freeze(int lane, int row, int frost) {
        Place place = new Place(lane, row);
        if (!place.isOnPane()) {
            return UNKNOWN;
        }
        if (frost < 0 || frost > 9) {
            return BAD_VALUE;
        }
        boolean had = state.trails.remove(place) != null;
        int previous = state.frost.put(place, frost);
        return previous == frost && !had ? NONE : previous;
    }

    int set(int which, int value) {
        if (which < 0 || which > 3) {
            return UNKNOWN;
        }
        int[][] ranges = {{0, 99}, {1, 9}, {1, 20}, {1, 50}};
        if (value < ranges[which][0] || value > ranges[which][1]) {
            return BAD_VALUE;
        }
        int previous = state.settings[which];
        if (previous == value) {
            return NONE;
        }
        State before = state.copy();
        state.settings[which] = value;
        state.dry();
        return act(previous, before);
    }

    int pass(int turns) {
        State before = state.copy();
        return act(go(turns), before);
    }

    private int go(int turns) {
        if (turns < 1 || turns > 99) {
            return BAD_VALUE;
        }
        if (state.turn + turns > 99999) {
            return FULL;
        }
        int before = state.ended();
        for (int turn = 0; turn < turns; turn++) {
            state.pass();
        }
        return state.ended() - before;
    }

    int type(char character) {
        if (text.length() == 60) {
            return FULL;
        }
        return text.append(character).length();
    }

    int clearText() {
        int length = text.length();
        text.setLength(0);
        return length;
    }

    private int fault() {
        for (int end = 1; end <= text.length(); end++) {
            Matcher matcher = SOUND.matcher(text.substring(0, end));
            if (!matcher.matches() && !matcher.hitEnd()) {
                return end - 1;
            }
        }
        return SOUND.matcher(text).matches() ? -1 : text.length();
    }

    int perform() {
        int fault = fault();
        if (fault >= 0) {
            return -100 - fault;
        }
        State before = state.copy();
        String[] things = text.toString().split(";");
        for (int thing = 0; thing < things.length; thing++) {
            int answer = perform(things[thing]);
            if (answer < 0 && answer != NONE) {
                stop = new int[] {thing, answer};
                state = before;
                return NOT_POSSIBLE;
            }
        }
        return act(things.length, before);
    }

    private int perform(String thing) {
        String[] numbers = thing.substring(1).split("[*.=]");
        if (thing.startsWith("s")) {
            return place(Integer.parseInt(numbers[0]), Integer.parseInt(numbers[1]));
        }
        if (thing.startsWith("f")) {
            return freeze(Integer.parseInt(numbers[0]), Integer.parseInt(numbers[1]), Integer.parseInt(numbers[2]));
        }
        return go(Integer.parseInt(numbers[0]));
    }

    int stopped(int what) {
        return what == 0 || what == 1 ? stop[what] : BAD_VALUE;
    }

    int undo() {
        if (history.isEmpty()) {
            return NONE;
        }
        state = history.removeLast();
        return history.size();
    }

    int keep() {
        snapshot = state.copy();
        return state.turn;
    }

    int restore() {
        if (snapshot == null) {
            return NONE;
        }
        State before = state;
        state = snapshot.copy();
        return act(state.turn, before);
    }

    private boolean isNone(int snail) {
        return snail < 0 || snail >= state.snails.size();
    }

    int snail(int number, int what) {
        if (isNone(number)) {
            return UNKNOWN;
        }
        if (what < 0 || what > 9) {
            return BAD_VALUE;
        }
        Snail snail = state.snails.get(number);
        int doing = snail.taken ? 2 : snail.rank != NONE ? 1 : 0;
        int[] told = {snail.place.lane, snail.place.row, snail.slime, doing, snail.rank, snail.deeds.size() - snail.rests(),
            snail.borrows(), snail.rests(), snail.lender(), snail.inARow()};
        return told[what];
    }

    int cell(int lane, int row, int what) {
        Place place = new Place(lane, row);
        if (!place.isOnPane()) {
            return UNKNOWN;
        }
        if (what < 0 || what > 3) {
            return BAD_VALUE;
        }
        Trail trail = state.trails.get(place);
        int[] told = {state.frost.get(place), trail == null ? NONE : trail.owner,
            trail == null ? NONE : state.turn - trail.leftAt, state.at(place)};
        return told[what];
    }

    int cost(int snail, int step) {
        if (isNone(snail)) {
            return UNKNOWN;
        }
        if (step < 0 || step > 2) {
            return BAD_VALUE;
        }
        if (!state.snails.get(snail).creeps()) {
            return NOT_POSSIBLE;
        }
        Place place = state.target(snail, step);
        return state.isStep(place) ? state.cost(snail, place) : NONE;
    }

    int does(int snail) {
        if (isNone(snail)) {
            return UNKNOWN;
        }
        return state.snails.get(snail).creeps() ? state.does(snail) : NOT_POSSIBLE;
    }

    int reason(int snail, int lane, int row) {
        Place place = new Place(lane, row);
        return isNone(snail) || !place.isOnPane() ? UNKNOWN : state.reason(snail, place);
    }

    int endsIn(int snail) {
        if (isNone(snail)) {
            return UNKNOWN;
        }
        return state.snails.get(snail).taken ? NOT_POSSIBLE : state.endsIn(snail);
    }

    int wayUp(int lane, int row, int way) {
        Place place = new Place(lane, row);
        if (!place.isOnPane()) {
            return UNKNOWN;
        }
        return way == 0 || way == 1 ? state.wayUp(place) : BAD_VALUE;
    }

    int leader() {
        int best = NONE;
        int most = -1;
        for (int number = 0; number < state.snails.size(); number++) {
            Snail snail = state.snails.get(number);
            int worth = snail.place.row * 1000 + snail.slime;
            if (snail.creeps() && worth > most) {
                best = number;
                most = worth;
            }
        }
        return best;
    }

    int owes(int snail, int other) {
        if (isNone(snail) || isNone(other)) {
            return UNKNOWN;
        }
        return snail == other ? BAD_VALUE : state.snails.get(snail).borrowsFrom(other);
    }

    int bestLane(int slime, int what) {
        if (slime < 0 || slime > 99 || what < 0 || what > 1) {
            return BAD_VALUE;
        }
        int[] best = {NONE, NONE};
        for (int lane = 5; lane >= 0; lane--) {
            if (state.at(new Place(lane, 0)) == NONE) {
                State other = state.copy();
                int turns = other.endsIn(other.add(lane, slime));
                if (turns != NONE && (best[0] == NONE || turns <= best[1])) {
                    best = new int[] {lane, turns};
                }
            }
        }
        return best[what];
    }

    int count(int what) {
        if (what < 0 || what > 14) {
            return BAD_VALUE;
        }
        if (what >= 9 && what <= 12) {
            return state.settings[what - 9];
        }
        int deeds = state.snails.stream().mapToInt(snail -> snail.deeds.size()).sum();
        int rests = state.snails.stream().mapToInt(Snail::rests).sum();
        int[] told = {state.turn, state.snails.size(), (int) state.snails.stream().filter(Snail::creeps).count(),
            state.ended(), state.trails.size(), state.frost.values().stream().mapToInt(Integer::intValue).sum(),
            deeds - rests, state.snails.stream().mapToInt(Snail::borrows).sum(), rests, 0, 0, 0, 0, history.size(),
            text.length()};
        return told[what];
    }
}
