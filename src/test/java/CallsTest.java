/** "An object is used for at most 512 calls after it has been made": each of the 512 is answered as the document asks. */
final class CallsTest {
    private static final Due DUE = new Due();
    private static final int MOST_CALLS = 512;
    /** Two roads, a page that is a word, and a river. */
    private static final String[] SOME = {"letter('L')", "letter('2')", "letter('R')", "word()", "letter('R')", "letter('L')", "word()",
        "letter('R')", "river(12)"};
    /** Calls that are asked in turn, over and over. */
    private static final String[][] TURNS = {{"letter('L')"}, {"letter('x')", "blank()"}, {"blank()"}, {"fault()"}, {"word()"},
        {"letter('L')", "word()", "drop()"}, {"road(0, 5)"}, {"sign(0, 2)"}, {"table(0, 3)"}, {"form(0, 4)"}, {"end(0, 1)"},
        {"alike(1, 1)"}, {"cross(0, 1)"}, {"turn(0, 1)"}, {"change(0, 0)"}, {"change(1, 1)", "change(1, 2)"}, {"join(0, 1)"},
        {"join(0, 1)", "drop()"}, {"times(1, 2)"}, {"times(1, 5)", "drop()"}, {"cut(3, 5)"}, {"cut(3, 5)", "drop()"}, {"drop()"},
        {"river(5)"}, {"river(60)", "river(12)"}, {"river(7)"}, {"simple(3, 4)"}, {"cycle(1, 1)"}, {"step(1, 2)"}, {"trace(0, 1000)"},
        {"flow(1, 6, 6, true)"}, {"flow(1, 6, 6, false)"}, {"lay(0)"}, {"lay(0)", "drop()"}, {"where(0)"}, {"drawn(40, 7, 2)"},
        {"drawn(40, 7, 3)"}, {"count(0)"}, {"count(3)"}, {"count(4)"}, {"count(6)"}, {"digest()"}};

    public static void main(String[] args) {
        for (String[] turn : TURNS) {
            run(new String[0], turn);
            run(SOME, turn);
        }
        run(sixRoads(), "word()");
        run(sixRoads(), "join(0, 1)", "count(0)");
        run(sixRoads(), "drop()", "word()", "letter('R')");
        readings();
        DUE.finish("CallsTest");
    }

    /** Six roads, and a page that is a word. */
    private static String[] sixRoads() {
        String[] calls = new String[13];
        for (int road = 0; road < 6; road++) {
            calls[2 * road] = "letter('R')";
            calls[2 * road + 1] = "word()";
        }
        calls[12] = "letter('L')";
        return calls;
    }

    /** One object that gets 512 calls, and no more. */
    private static void run(String[] before, String... turn) {
        RiverWords words = new RiverWords();
        Model model = new Model();
        for (int call = 1; call <= MOST_CALLS; call++) {
            boolean started = call > before.length;
            String asked = started ? turn[(call - before.length - 1) % turn.length] : before[call - 1];
            DUE.due("call " + call + " of an object: " + asked, Spoken.ask(words, asked), Spoken.ask(model, asked));
        }
    }

    /** As many roads as 512 calls can read, each of them counted by count(4). */
    private static void readings() {
        RiverWords words = new RiverWords();
        for (int reading = 1; reading <= 170; reading++) {
            words.letter('L');
            words.word();
            words.drop();
        }
        DUE.due("28: count(4) as call 511", words.count(4), 170);
        DUE.due("28: count(4) as call 512", words.count(4), 170);
    }
}
