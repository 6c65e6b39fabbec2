/** Asks any number of telling calls of one state, of a new object before any one has lived for 512 calls. */
final class Renewed {
    private static final int MOST_ASKED = 400;
    private final Edge.Start start;
    private RiverWords words;
    private int asked;

    Renewed(Edge.Start start) {
        this.start = start;
    }

    long ask(Edge.Call call) {
        if (words == null || asked >= MOST_ASKED) {
            words = start.make();
            asked = 0;
        }
        asked++;
        return call.answer(words);
    }
}
