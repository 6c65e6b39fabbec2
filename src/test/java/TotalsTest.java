/** Promises 27 to 29: what is told of all. */
final class TotalsTest {
    private static final Due DUE = new Due();

    public static void main(String[] args) {
        drawn();
        everyDrawn();
        count();
        digest();
        DUE.finish("TotalsTest");
    }

    private static void drawn() {
        RiverWords words = Due.with("LR", "L2");
        long before = words.digest();
        // From 0 on, s is 12345, 1406932606, 654583775, 1449466924, 229283573, 1109335178, 1051550459, 1293799192:
        // the bits of 65536 say the word LLLRLRRR, whose matrix is (2, 7; 7, 25).
        DUE.due("27: drawn(1, 0, 0)", words.drawn(1, 0, 0), 1);
        DUE.due("27: drawn(1, 0, 1)", words.drawn(1, 0, 1), Due.with("LLLRLRRR").road(0, 5));
        DUE.due("27: drawn(1, 0, 2)", words.drawn(1, 0, 2), 0);
        DUE.due("27: drawn(1, 0, 3)", words.drawn(1, 0, 3), 1293799192);
        DUE.due("27: drawn(40, 7, 2)", words.drawn(40, 7, 2), 604);
        DUE.due("27: drawn(40, 7, 1)", words.drawn(40, 7, 1), 1012);
        DUE.due("27: the same again", words.drawn(40, 7, 1), 1012);
        DUE.due("27: drawn changes nothing", words.digest(), before);
        for (int what = 0; what < 4; what++) {
            int told = what;
            DUE.refused(words, "27: no words", () -> words.drawn(0, 7, told), Due.OUTSIDE);
            DUE.refused(words, "27: 41 words", () -> words.drawn(41, 7, told), Due.OUTSIDE);
            DUE.refused(words, "27: seed -1", () -> words.drawn(1, -1, told), Due.OUTSIDE);
        }
        DUE.refused(words, "27: what is 4", () -> words.drawn(1, 7, 4), Due.OUTSIDE);
        for (int wild : Due.WILD) {
            DUE.refused(words, "27: times is " + wild, () -> words.drawn(wild, 0, 0), Due.OUTSIDE);
            DUE.refused(words, "27: what is " + wild, () -> words.drawn(1, 0, wild), Due.OUTSIDE);
        }
        DUE.refused(words, "27: the least seed", () -> words.drawn(1, Integer.MIN_VALUE, 3), Due.OUTSIDE);
        RiverWords full = Due.full("");
        DUE.due("27: with six roads", full.drawn(40, 7, 0), 40);
    }

    private static void everyDrawn() {
        RiverWords words = new RiverWords();
        Model model = new Model();
        for (int i = 0; i < 400; i++) {
            if (i % 100 == 0) {
                words = new RiverWords();
            }
            int seed = i < 200 ? i : i < 300 ? Integer.MAX_VALUE - i : i * 7654321 & Integer.MAX_VALUE;
            int times = 1 + i % 40;
            for (int what = 0; what < 4; what++) {
                String call = "27: drawn(" + times + ", " + seed + ", " + what + ")";
                DUE.due(call, words.drawn(times, seed, what), model.drawn(times, seed, what));
            }
        }
        openWords(model);
    }

    /** Seeds whose first or second word is not closed. */
    private static void openWords(Model model) {
        RiverWords words = new RiverWords();
        int found = 0;
        for (int seed = 0; seed < 4000 && found < 30; seed++) {
            if (model.drawn(2, seed, 0) == 2) {
                continue;
            }
            found++;
            for (int times = 1; times <= 4; times++) {
                for (int what = 0; what < 4; what++) {
                    String call = "27: drawn(" + times + ", " + seed + ", " + what + ")";
                    DUE.due(call, words.drawn(times, seed, what), model.drawn(times, seed, what));
                }
            }
        }
        DUE.due("27: seeds with open words", found, 30);
    }

    private static void countRow(String call, RiverWords words, long... want) {
        long[] row = new long[7];
        for (int what = 0; what < row.length; what++) {
            row[what] = words.count(what);
        }
        DUE.row("28: " + call, row, want);
    }

    private static void count() {
        RiverWords words = Due.with("LLR", "LRL", "L3", "R3", "LRR");
        countRow("five roads", words, 5, 4 - 1, 4, 0, 5, 0, 0);
        words.drop();
        words.drop();
        countRow("three roads", words, 3, 2, 2, 0, 5, 0, 0);
        Due.page(words, "L3x");
        words.river(40);
        countRow("a page and a river", words, 3, 2, 2, 3, 5, 20, 2);
        words.word();
        countRow("a refused word", words, 3, 2, 2, 3, 5, 20, 2);
        words.blank();
        Due.page(words, "L3");
        words.word();
        countRow("the same word again", words, 4, 2, 2, 0, 6, 20, 2);
        words.turn(0, 1);
        words.join(0, 2);
        words.times(0, 2);
        countRow("roads that are not read", words, 6, 4, 4, 0, 6, 20, 2);
        Due.page(words, "R");
        words.word();
        countRow("a word that finds no place", words, 6, 4, 4, 1, 6, 20, 2);
        for (int wild : new int[] {-1, 7, Integer.MIN_VALUE, Integer.MAX_VALUE}) {
            DUE.refused(words, "28: count(" + wild + ")", () -> words.count(wild), Due.OUTSIDE);
        }
    }

    private static void digest() {
        DUE.due("29: a new object", new RiverWords().digest(), 1549L * 27512614111L);
        RiverWords page = new RiverWords();
        page.letter(40);
        // 31^8 is 852891037441; the count of the page's characters is followed by three more.
        DUE.due("29: a page", page.digest(), 1549L * 852891037441L + 40L * 27512614111L + 29791);
        String[][] texts = {{"L"}, {"LR"}, {"LR", "L", "LLR"}, {"LR", "LLR", "R3", "L9R9L2", "LRLR", "R9R9RL"}};
        for (String[] row : texts) {
            RiverWords words = Due.with(row);
            Model model = new Model(row);
            DUE.due("29: roads", words.digest(), model.digest());
            words.river(60);
            model.river(60);
            DUE.due("29: roads and a river", words.digest(), model.digest());
            Due.page(words, "Lx~ 2");
            for (char code : "Lx~ 2".toCharArray()) {
                model.letter(code);
            }
            DUE.due("29: roads, a river and a page", words.digest(), model.digest());
            DUE.due("29: the same again", words.digest(), model.digest());
        }
    }
}
