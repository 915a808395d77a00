import java.util.ArrayList;
import java.util.List;
import java.util.function.Consumer;
import java.util.function.ToIntFunction;

/**
 * All that can be told after a run of calls. An object is good for 512 calls, so the run is done again
 * on a new object for each lot of questions.
 */
final class Told {
    private static final int MOST_ASKED = 340;
    /** So many of the first questions are about no part of a state. */
    private static final int NO_STATE = 4;

    private record Question(String call, ToIntFunction<SnailTrails> answer) {
    }

    private record Ending(String name, Consumer<SnailTrails> calls) {
    }

    private static final List<Question> QUESTIONS = questions();
    /** The history, the snapshot and the characters of the text show only by what these bring about. */
    private static final List<Ending> ENDINGS = List.of(new Ending("", x -> { }),
        new Ending("undo(), ", x -> undo(x, 1)), new Ending("undo() twice, ", x -> undo(x, 2)),
        new Ending("undo() 3 times, ", x -> undo(x, 3)), new Ending("undo() 4 times, ", x -> undo(x, 4)),
        new Ending("undo() 5 times, ", x -> undo(x, 5)), new Ending("restore(), ", SnailTrails::restore),
        new Ending("perform(), ", SnailTrails::perform));

    private Told() {
    }

    /** Says what tells the two runs apart first; empty if nothing does. */
    static String difference(Consumer<SnailTrails> run, Consumer<SnailTrails> other) {
        for (Ending ending : ENDINGS) {
            String difference = firstDifference(after(run.andThen(ending.calls)), after(other.andThen(ending.calls)), 0);
            if (!difference.isEmpty()) {
                return ": " + ending.name + difference;
            }
        }
        return "";
    }

    /** As difference(), but of the states alone, which the text, the history and the latest stop are no part of. */
    static String differenceOfStates(Consumer<SnailTrails> run, Consumer<SnailTrails> other) {
        String difference = firstDifference(after(run), after(other), NO_STATE);
        return difference.isEmpty() ? "" : ": " + difference;
    }

    private static String firstDifference(int[] answers, int[] others, int from) {
        for (int index = from; index < answers.length; index++) {
            if (answers[index] != others[index]) {
                return QUESTIONS.get(index).call + " answers " + answers[index] + " and " + others[index];
            }
        }
        return "";
    }

    /** The answers of all questions, always in the same order. */
    private static int[] after(Consumer<SnailTrails> run) {
        int[] answers = new int[QUESTIONS.size()];
        SnailTrails x = null;
        for (int index = 0; index < answers.length; index++) {
            if (index % MOST_ASKED == 0) {
                x = new SnailTrails();
                run.accept(x);
            }
            answers[index] = QUESTIONS.get(index).answer.applyAsInt(x);
        }
        return answers;
    }

    private static void undo(SnailTrails x, int times) {
        for (int time = 0; time < times; time++) {
            x.undo();
        }
    }

    private static List<Question> questions() {
        List<Question> all = new ArrayList<>();
        all.add(new Question("count(13)", x -> x.count(13)));
        all.add(new Question("count(14)", x -> x.count(14)));
        all.add(new Question("stopped(0)", x -> x.stopped(0)));
        all.add(new Question("stopped(1)", x -> x.stopped(1)));
        for (int number = 0; number < 13; number++) {
            int what = number;
            all.add(new Question("count(" + what + ")", x -> x.count(what)));
        }
        all.add(new Question("leader()", SnailTrails::leader));
        all.add(new Question("bestLane(50, 0)", x -> x.bestLane(50, 0)));
        for (int number = 0; number < 8; number++) {
            ofSnail(all, number);
        }
        for (int number = 0; number < 480; number++) {
            int lane = number / 4 % 6;
            int row = number / 24;
            int what = number % 4;
            all.add(new Question("cell(" + lane + ", " + row + ", " + what + ")", x -> x.cell(lane, row, what)));
        }
        return all;
    }

    private static void ofSnail(List<Question> all, int snail) {
        for (int number = 0; number < 10; number++) {
            int what = number;
            all.add(new Question("snail(" + snail + ", " + what + ")", x -> x.snail(snail, what)));
        }
        for (int number = 0; number < 8; number++) {
            int other = number;
            all.add(new Question("owes(" + snail + ", " + other + ")", x -> x.owes(snail, other)));
        }
        for (int number = 0; number < 3; number++) {
            int step = number;
            all.add(new Question("cost(" + snail + ", " + step + ")", x -> x.cost(snail, step)));
        }
        all.add(new Question("does(" + snail + ")", x -> x.does(snail)));
        all.add(new Question("endsIn(" + snail + ")", x -> x.endsIn(snail)));
    }
}
