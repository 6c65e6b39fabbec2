import java.util.ArrayList;
import java.util.List;

/**
 * Calls at the edges of their arguments. Each one is tried on a new object, and what a refused or telling call leaves
 * behind is compared with a second object on which it was not called, so that no object lives for more than 512 calls.
 */
final class Edge {
    interface Start {
        RiverWords make();
    }

    interface Call {
        long answer(RiverWords words);
    }

    /** A call with one number that is varied. */
    interface Numbered {
        long answer(RiverWords words, int number);
    }

    /** A state that an object can be in before a call. */
    record State(String name, Start start) {
    }

    /** The roads RL2, L3 and 20 letters, three characters on the page, and the river 12 with 6 forms and 2 cycles. */
    static final Start SOME = () -> laid(12, "L2x", "RL2", "L3", "L9R9LR");
    /** Six roads, the text of a word on the page, and the river 20 with 8 forms and 1 cycle. */
    static final Start SIX = () -> laid(20, "LR2", "LR", "L9R9LR", "L", "R9L2", "LR", "R3");
    static final List<State> STATES = List.of(new State("a new object", RiverWords::new), new State("some of all", SOME),
        new State("six roads", SIX), new State("a full page", () -> laid(5, "L9R9LR3xLRLRLRLRLRLR", "LR")),
        new State("roads and no river", () -> Due.with("LR", "R9R9R2")), new State("a river alone", () -> laid(889, "")));

    private static final int MOST_CALLS = 512, LEAST_ERROR = -2000000104, MOST_ERROR = -2000000101;
    private final Due due;

    Edge(Due due) {
        this.due = due;
    }

    static RiverWords laid(int river, String page, String... roads) {
        RiverWords words = Due.with(roads);
        words.river(river);
        Due.page(words, page);
        return words;
    }

    static boolean isError(long answer) {
        return answer >= LEAST_ERROR && answer <= MOST_ERROR;
    }

    /** A refused call answers its error, and all calls answer afterwards as if it had not been. */
    void refused(String call, Start start, Call refused, int error) {
        RiverWords tried = start.make();
        due.due(call, refused.answer(tried), error);
        sameAfterwards(call, tried, start.make());
    }

    /** A refused call, in each of the states. */
    void refusedAlways(String call, Call refused, int error) {
        for (State state : STATES) {
            refused(call + " with " + state.name(), state.start(), refused, error);
        }
    }

    /** A call that only tells changes nothing either. */
    void told(String call, Start start, Call telling, long want) {
        RiverWords tried = start.make();
        due.due(call, telling.answer(tried), want);
        sameAfterwards(call, tried, start.make());
    }

    /** Two ways to the same state. */
    void same(String call, Start one, Start other) {
        sameAfterwards(call, one.make(), other.make());
    }

    private void sameAfterwards(String call, RiverWords tried, RiverWords untouched) {
        due.row(call + ": afterwards", afterwards(tried), afterwards(untouched));
    }

    /** The first and the last number of a range are accepted, those beside them and the wildest are refused. */
    void range(String call, Start start, Numbered numbered, int low, int high, int error) {
        for (int number : new int[] {low, high}) {
            due.due(call + " accepts " + number, isError(numbered.answer(start.make(), number)) ? 1 : 0, 0);
        }
        for (int number : new int[] {low - 1, high + 1, Integer.MIN_VALUE, Integer.MAX_VALUE}) {
            refused(call + " with " + number, start, words -> numbered.answer(words, number), error);
        }
    }

    /** What an object answers, first to calls that only tell and then to some that change it. */
    static long[] afterwards(RiverWords words) {
        List<Long> told = new ArrayList<>();
        for (int what = 0; what < 7; what++) {
            told.add((long) words.count(what));
        }
        told.add((long) words.fault());
        told.add(words.digest());
        for (int road = 0; road < words.count(0); road++) {
            tellRoad(words, road, told);
        }
        tellRiver(words, told);
        change(words, told);
        long[] row = new long[told.size()];
        for (int i = 0; i < row.length; i++) {
            row[i] = told.get(i);
        }
        if (row.length + 100 > MOST_CALLS) {
            throw new IllegalStateException("too many calls for one object: " + row.length);
        }
        return row;
    }

    private static void tellRoad(RiverWords words, int road, List<Long> told) {
        for (int what = 0; what < 10; what++) {
            told.add((long) words.road(road, what));
        }
        told.add((long) words.sign(road, 0));
        told.add((long) words.sign(road, words.road(road, 0) - 1));
        for (int what = 0; what < 4; what++) {
            told.add((long) words.table(road, what));
        }
        for (int what = 0; what < 5; what++) {
            told.add((long) words.form(road, what));
        }
        told.add((long) words.end(road, 0));
        told.add((long) words.end(road, 1));
        told.add((long) words.where(road));
        for (int other = 0; other < words.count(0); other++) {
            told.add((long) words.alike(road, other));
            told.add((long) words.cross(road, other));
        }
    }

    private static void tellRiver(RiverWords words, List<Long> told) {
        int forms = words.count(5);
        for (int form = Math.max(0, forms - 4); form < forms; form++) {
            for (int what = 0; what < 8; what++) {
                told.add((long) words.simple(form, what));
            }
        }
        for (int cycle = 0; cycle < Math.min(3, words.count(6)); cycle++) {
            for (int what = 0; what < 5; what++) {
                told.add((long) words.cycle(cycle, what));
            }
            told.add((long) words.step(cycle, 1));
            told.add((long) words.trace(cycle, 1000));
        }
        told.add((long) words.flow(1, 4, 1, true));
        told.add((long) words.drawn(2, 7, 2));
    }

    private static void change(RiverWords words, List<Long> told) {
        told.add((long) words.letter('L'));
        told.add((long) words.word());
        told.add((long) words.drop());
        told.add((long) words.word());
        told.add((long) words.lay(0));
        told.add((long) words.turn(0, 1));
        told.add((long) words.change(1, 0));
        told.add((long) words.cut(2, 3));
        told.add(words.digest());
        told.add((long) words.blank());
        told.add((long) words.fault());
        told.add((long) words.letter('R'));
        told.add((long) words.word());
        told.add((long) words.river(13));
        told.add(words.digest());
    }
}
