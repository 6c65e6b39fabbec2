/** The boundary cases of promises 13 to 18, in the document's order. */
final class EdgeChangeTest {
    private static final Due DUE = new Due();
    private static final Edge EDGE = new Edge(DUE);
    private static final String TWENTY = "LLLLLLLLLRRRRRRRRRLR";
    private static final String[] WORDS = {"L", "R", "LR", "RL", "LLR", "LRLR", "RLLRLRR", "LLLLLLLLLLLLLLLLLLLL", TWENTY};

    public static void main(String[] args) {
        roadNumbers();
        turnRange();
        turnsThatGoRound();
        turnedWord();
        changeRange();
        changedWord();
        joinLengths();
        joinErrors();
        timesRange();
        timesLengths();
        timesErrors();
        cutRange();
        cutLengths();
        cutErrors();
        cutEnds();
        fullByEachCall();
        drops();
        DUE.finish("EdgeChangeTest");
    }

    private static final Edge.Numbered[] BY_ROAD = {(words, n) -> words.turn(n, 0), (words, n) -> words.change(n, 0),
        (words, n) -> words.join(n, 0), (words, n) -> words.join(0, n), (words, n) -> words.times(n, 2)};

    /** "UNKNOWN: there is no such road", before all other errors. */
    private static void roadNumbers() {
        for (int roads = 1; roads <= 5; roads++) {
            String[] texts = new String[roads];
            java.util.Arrays.fill(texts, "LLR");
            for (int call = 0; call < BY_ROAD.length; call++) {
                EDGE.range("13 to 16: call " + call + " with " + roads + " roads", () -> Due.with(texts), BY_ROAD[call], 0, roads - 1,
                    Due.UNKNOWN);
            }
        }
        for (int road : new int[] {-1, 6, Integer.MIN_VALUE, Integer.MAX_VALUE}) {
            for (int number : new int[] {-1, 0, 1, 2, 3, 6, 20, Integer.MIN_VALUE, Integer.MAX_VALUE}) {
                EDGE.refusedAlways("13: turn(" + road + ", " + number + ")", words -> words.turn(road, number), Due.UNKNOWN);
                EDGE.refusedAlways("14: change(" + road + ", " + number + ")", words -> words.change(road, number), Due.UNKNOWN);
                EDGE.refusedAlways("15: join(" + road + ", " + number + ")", words -> words.join(road, number), Due.UNKNOWN);
                EDGE.refusedAlways("15: join(" + number + ", " + road + ")", words -> words.join(number, road), Due.UNKNOWN);
                EDGE.refusedAlways("16: times(" + road + ", " + number + ")", words -> words.times(road, number), Due.UNKNOWN);
            }
        }
        for (int call = 0; call < 2; call++) {
            Edge.Numbered changed = BY_ROAD[call];
            EDGE.refused("13, 14: road 6 of six", Edge.SIX, words -> changed.answer(words, 6), Due.UNKNOWN);
            DUE.due("13, 14: road 5 of six", Edge.isError(changed.answer(Edge.SIX.make(), 5)) ? 1 : 0, 0);
        }
    }

    /** "k, from 0 to the number of its letters minus 1" */
    private static void turnRange() {
        for (String word : WORDS) {
            EDGE.range("13: turn of " + word, () -> Due.with(word), (words, by) -> words.turn(0, by), 0, word.length() - 1, Due.OUTSIDE);
        }
        EDGE.range("13: turn of 20 letters among six roads", Edge.SIX, (words, by) -> words.turn(1, by), 0, 19, Due.OUTSIDE);
        EDGE.range("13: turn of 1 letter among six roads", Edge.SIX, (words, by) -> words.turn(2, by), 0, 0, Due.OUTSIDE);
    }

    /** The rotation has the letters from index k on, followed by the first k, and all that is told is that word's. */
    private static void turnedWord() {
        for (String word : WORDS) {
            for (int by = 0; by < word.length(); by++) {
                int k = by;
                String turned = word.substring(by) + word.substring(0, by);
                EDGE.same("13: " + word + " turned by " + by, () -> {
                    RiverWords words = Due.with("LR", word, "R");
                    words.turn(1, k);
                    return words;
                }, () -> Due.with("LR", turned, "R"));
            }
        }
        int[] periods = {1, 1, 2, 2, 3, 2, 7, 1, 20};
        for (int i = 0; i < WORDS.length; i++) {
            for (int by = 0; by < WORDS[i].length(); by++) {
                DUE.due("13: turn(0, " + by + ") of " + WORDS[i], Due.with(WORDS[i]).turn(0, by), periods[i]);
            }
        }
    }

    private static void turnsThatGoRound() {
        RiverWords words = Due.with(TWENTY);
        for (int turn = 1; turn <= 20; turn++) {
            DUE.due("13: turned by 1, " + turn + " times", words.turn(0, 1), 20);
            int k = turn % 20;
            DUE.letters("13: turned by 1, " + turn + " times", words, 0, TWENTY.substring(k) + TWENTY.substring(0, k));
        }
        for (int by = 1; by < 20; by++) {
            RiverWords back = Due.with(TWENTY);
            back.turn(0, by);
            back.turn(0, 20 - by);
            DUE.letters("13: turned by " + by + " and back", back, 0, TWENTY);
            back.turn(0, 19);
            back.turn(0, by);
            int k = (19 + by) % 20;
            DUE.letters("13: turned by 19 and " + by, back, 0, TWENTY.substring(k) + TWENTY.substring(0, k));
        }
    }

    /** "OUTSIDE if how is not 0 to 2" */
    private static void changeRange() {
        for (String word : WORDS) {
            EDGE.range("14: change of " + word, () -> Due.with(word), (words, how) -> words.change(0, how), 0, 2, Due.OUTSIDE);
        }
        EDGE.range("14: change of the last road", Edge.SIX, (words, how) -> words.change(5, how), 0, 2, Due.OUTSIDE);
    }

    private static void changed(String word, int how, int trace, String want) {
        RiverWords words = Due.with(word);
        DUE.due("14: change(0, " + how + ") of " + word, words.change(0, how), trace);
        EDGE.same("14: change(0, " + how + ") of " + word, () -> {
            RiverWords changed = Due.with("LR", word, "R");
            changed.change(1, how);
            return changed;
        }, () -> Due.with("LR", want, "R"));
    }

    private static void changedWord() {
        String twenty = "L".repeat(20);
        changed("L", 0, 2, "L");
        changed("L", 1, 2, "R");
        changed("L", 2, 2, "L");
        changed("R", 1, 2, "L");
        changed("R", 2, 2, "R");
        changed("RL", 0, 3, "LR");
        changed("RL", 1, 3, "LR");
        changed("RL", 2, 3, "LR");
        changed(twenty, 0, 2, twenty);
        changed(twenty, 1, 2, "R".repeat(20));
        changed(twenty, 2, 2, twenty);
        changed("R" + "L".repeat(19), 0, 21, "L".repeat(19) + "R");
        changed("R" + "L".repeat(19), 1, 21, "L" + "R".repeat(19));
        changed("R" + "L".repeat(19), 2, 21, "L".repeat(19) + "R");
        changed("R".repeat(19) + "L", 2, 21, "L" + "R".repeat(19));
        changed("RLRLRLRLRLRLRLRLRLRL", 2, 15127, "LRLRLRLRLRLRLRLRLRLR");
        // L3RLR2 is no rotation of its reversal, of its complement or of the reversal of that.
        changed("RLRRLLL", 0, 20, "LLLRRLR");
        changed("RLRRLLL", 1, 20, "LRLLRRR");
        changed("RLRRLLL", 2, 20, "LLLRLRR");
        changed("LLLRLRR", 2, 20, "LLLRLRR");
        changed("LLLLLLLRLLRRRRRRRLRR", 0, 578, "RRLRRRRRRRLLRLLLLLLL");
        changed("LLLLLLLRLLRRRRRRRLRR", 1, 578, "RRRRRRRLRRLLLLLLLRLL");
        changed("RLLRRRRRRRLRRLLLLLLL", 2, 578, "LLLLLLLRLLRRRRRRRLRR");
        // The letters L at the end come before those at the start.
        changed("LLRLLLRLLR" + "LLRLRLRLLL", 2, 3275, "LLLLLRLLLRLLRLLRLRLR");
    }

    private static RiverWords lengths(int one, int other) {
        return Due.with(TWENTY.substring(20 - one), TWENTY.substring(0, other));
    }

    /** "STATE if it would have more than 20 letters" */
    private static void joinLengths() {
        for (int one = 1; one <= 20; one++) {
            for (int other = 1; other <= 20; other++) {
                int first = one;
                int second = other;
                if (one + other <= 20) {
                    RiverWords words = lengths(one, other);
                    DUE.due("15: join of " + one + " and " + other + " letters", words.join(0, 1), 2);
                    DUE.letters("15: join of " + one + " and " + other, words, 2, TWENTY.substring(20 - one) + TWENTY.substring(0, other));
                } else {
                    EDGE.refused("15: join of " + one + " and " + other, () -> lengths(first, second), words -> words.join(0, 1), Due.STATE);
                }
            }
            RiverWords words = lengths(one, 1);
            DUE.due("15: join of " + one + " letters with themselves", words.join(0, 0), one <= 10 ? 2 : Due.STATE);
        }
        EDGE.same("15: a joined road is like one that is read", () -> addedTo(words -> words.join(0, 1), "LLR", "R9"),
            () -> Due.with("LLR", "R9", "L2RR9"));
        DUE.due("15: a joined road is not read", addedTo(words -> words.join(0, 0), "L").count(4), 2);
    }

    /** UNKNOWN, then STATE, then FULL. */
    private static void joinErrors() {
        Edge.Start six = () -> Due.with("L9R", "L9R2", "LR", "L", "R", TWENTY);
        EDGE.refused("15: 20 letters with six roads", six, words -> words.join(0, 0), Due.FULL);
        EDGE.refused("15: 2 letters with six roads", six, words -> words.join(3, 4), Due.FULL);
        EDGE.refused("15: 21 letters with six roads", six, words -> words.join(0, 1), Due.STATE);
        EDGE.refused("15: 21 letters with six roads", six, words -> words.join(3, 5), Due.STATE);
        EDGE.refused("15: 40 letters with six roads", six, words -> words.join(5, 5), Due.STATE);
        EDGE.refused("15: road 6 with six roads", six, words -> words.join(5, 6), Due.UNKNOWN);
        EDGE.refused("15: road -1 with six roads", six, words -> words.join(-1, 5), Due.UNKNOWN);
    }

    /** "n: 2 to 5" */
    private static void timesRange() {
        EDGE.range("16: times", () -> Due.with("LR"), (words, n) -> words.times(0, n), 2, 5, Due.OUTSIDE);
        EDGE.range("16: times of 4 letters", () -> Due.with("LRLR"), (words, n) -> words.times(0, n), 2, 5, Due.OUTSIDE);
        for (int n : new int[] {0, 1, 6, -1}) {
            EDGE.refused("16: " + n + " times", () -> Due.with("L"), words -> words.times(0, n), Due.OUTSIDE);
        }
    }

    private static void timesLengths() {
        for (int size = 1; size <= 20; size++) {
            String word = TWENTY.substring(0, size);
            for (int n = 2; n <= 5; n++) {
                int copies = n;
                String call = "16: " + size + " letters " + n + " times";
                if (n * size <= 20) {
                    RiverWords words = Due.with(word);
                    DUE.due(call, words.times(0, n), 1);
                    DUE.letters(call, words, 1, word.repeat(n));
                    DUE.letters(call, words, 0, word);
                    EDGE.same(call, () -> addedTo(added -> added.times(0, copies), word), () -> Due.with(word, word.repeat(copies)));
                } else {
                    EDGE.refused(call, () -> Due.with(word), words -> words.times(0, copies), Due.STATE);
                }
            }
        }
    }

    /** Roads that are read, one more that is dropped, and one that is made, so that as many are read as if that one were. */
    private static RiverWords addedTo(Edge.Call added, String... texts) {
        RiverWords words = Due.with(texts);
        words.letter('L');
        words.word();
        words.drop();
        added.answer(words);
        return words;
    }

    /** UNKNOWN, then OUTSIDE, then STATE, then FULL. */
    private static void timesErrors() {
        Edge.Start six = () -> Due.with("L5", "R7", "LR", "L", TWENTY, "L3RL6");
        EDGE.refused("16: 20 letters with six roads", six, words -> words.times(0, 4), Due.FULL);
        EDGE.refused("16: 20 letters with six roads", six, words -> words.times(5, 2), Due.FULL);
        EDGE.refused("16: 21 letters with six roads", six, words -> words.times(1, 3), Due.STATE);
        EDGE.refused("16: 100 letters with six roads", six, words -> words.times(4, 5), Due.STATE);
        for (int n : new int[] {1, 6, 0, -1, Integer.MIN_VALUE, Integer.MAX_VALUE}) {
            EDGE.refused("16: 20 letters " + n + " times with six roads", six, words -> words.times(4, n), Due.OUTSIDE);
            EDGE.refused("16: road 6, " + n + " times, with six roads", six, words -> words.times(6, n), Due.UNKNOWN);
            EDGE.refused("16: 20 letters " + n + " times", () -> Due.with(TWENTY), words -> words.times(0, n), Due.OUTSIDE);
        }
    }

    /** "p: 1 to 99", "q: 1 to 99; p and q have no common divisor greater than 1, and are not both 1" */
    private static void cutRange() {
        EDGE.range("17: p", RiverWords::new, (words, p) -> p == 1 ? words.cut(1, 2) : words.cut(p, 14), 1, 99, Due.OUTSIDE);
        EDGE.range("17: q", RiverWords::new, (words, q) -> q == 1 ? words.cut(2, 1) : words.cut(14, q), 1, 99, Due.OUTSIDE);
        int[][] wrong = {{1, 1}, {2, 2}, {99, 99}, {98, 98}, {98, 2}, {2, 98}, {99, 33}, {97, 97}, {0, 0}, {0, 1}, {1, 0}, {-1, 1}, {1, -1},
            {-1, -1}, {-2, 1}, {100, 1}, {1, 100}, {100, 99}, {99, 100}, {101, 100}, {-3, -2}, {0, 99}, {Integer.MIN_VALUE, Integer.MIN_VALUE},
            {Integer.MIN_VALUE, -1}, {Integer.MAX_VALUE, 2}, {2, Integer.MAX_VALUE}};
        for (int[] pair : wrong) {
            EDGE.refusedAlways("17: cut(" + pair[0] + ", " + pair[1] + ")", words -> words.cut(pair[0], pair[1]), Due.OUTSIDE);
        }
    }

    private static void cut(int p, int q, String want) {
        RiverWords words = new RiverWords();
        DUE.due("17: cut(" + p + ", " + q + ")", words.cut(p, q), 0);
        DUE.letters("17: cut(" + p + ", " + q + ")", words, 0, want);
        EDGE.same("17: cut(" + p + ", " + q + ")", () -> addedTo(added -> added.cut(p, q)), () -> Due.with(want));
    }

    /** "STATE if it would have more than 20 letters" */
    private static void cutLengths() {
        cut(2, 1, "R");
        cut(1, 2, "L");
        cut(21, 1, "R".repeat(20));
        cut(1, 21, "L".repeat(20));
        cut(39, 2, "R".repeat(19) + "L");
        cut(2, 39, "L".repeat(19) + "R");
        cut(20, 1, "R".repeat(19));
        // 99 / 7: 14 letters R, then 1 / 7: 6 letters L.
        cut(99, 7, "R".repeat(14) + "L".repeat(6));
        cut(7, 99, "L".repeat(14) + "R".repeat(6));
        cut(55, 89, "LRLRLRLRL");
        int[][] tooLong = {{22, 1}, {1, 22}, {41, 2}, {2, 41}, {99, 98}, {98, 99}, {99, 1}, {1, 99}, {99, 50}, {99, 2}, {97, 96}};
        for (int[] pair : tooLong) {
            EDGE.refused("17: cut(" + pair[0] + ", " + pair[1] + ")", Edge.SOME, words -> words.cut(pair[0], pair[1]), Due.STATE);
        }
    }

    /** OUTSIDE, then STATE, then FULL. */
    private static void cutErrors() {
        EDGE.refused("17: 1 letter with six roads", Edge.SIX, words -> words.cut(2, 1), Due.FULL);
        EDGE.refused("17: 20 letters with six roads", Edge.SIX, words -> words.cut(1, 21), Due.FULL);
        EDGE.refused("17: 21 letters with six roads", Edge.SIX, words -> words.cut(1, 22), Due.STATE);
        EDGE.refused("17: 98 letters with six roads", Edge.SIX, words -> words.cut(99, 98), Due.STATE);
        EDGE.refused("17: a common divisor and 49 letters", Edge.SIX, words -> words.cut(2, 98), Due.OUTSIDE);
        EDGE.refused("17: 100 and 99 letters with six roads", Edge.SIX, words -> words.cut(100, 1), Due.OUTSIDE);
    }

    /** "The end of a word is the fraction" again of which it is the word, for every fraction that is accepted. */
    private static void cutEnds() {
        for (int p = 1; p <= 99; p++) {
            for (int q = 1; q <= 99; q++) {
                RiverWords words = new RiverWords();
                if (words.cut(p, q) == 0) {
                    DUE.due("17: the numerator of cut(" + p + ", " + q + ")", words.end(0, 0), p);
                    DUE.due("17: the denominator of cut(" + p + ", " + q + ")", words.end(0, 1), q);
                }
            }
        }
    }

    /** "FULL: there are six roads already": each call that adds a road adds the sixth, and no seventh. */
    private static void fullByEachCall() {
        Edge.Call[] adding = {RiverWords::word, words -> words.join(0, 1), words -> words.times(0, 2), words -> words.cut(3, 2),
            words -> words.lay(0)};
        for (int call = 0; call < adding.length; call++) {
            Edge.Call added = adding[call];
            for (int roads = 2; roads <= 5; roads++) {
                DUE.due("5, 15 to 17, 25: call " + call + " after " + roads + " roads", added.answer(start(roads).make()), roads);
            }
            EDGE.refused("5, 15 to 17, 25: call " + call + " after six roads", start(6), added, Due.FULL);
            RiverWords again = start(6).make();
            again.drop();
            DUE.due("5, 15 to 17, 25: call " + call + " after drop()", added.answer(again), 5);
            DUE.due("5, 15 to 17, 25: call " + call + " once more", isFullOrEmpty(added.answer(again)), 1);
        }
    }

    /** After the page is read, a second word() finds it empty. */
    private static int isFullOrEmpty(long answer) {
        return answer == Due.FULL || answer == Due.STATE ? 1 : 0;
    }

    private static Edge.Start start(int roads) {
        String[] texts = new String[roads];
        java.util.Arrays.fill(texts, "LLR");
        return () -> Edge.laid(5, "R2L", texts);
    }

    /** "STATE if there are none" */
    private static void drops() {
        for (int roads = 1; roads <= 6; roads++) {
            RiverWords words = start(roads).make();
            for (int left = roads - 1; left >= 0; left--) {
                DUE.due("18: drop() of " + roads, words.drop(), left);
                DUE.due("18: count(0)", words.count(0), left);
                DUE.due("18: the dropped road is unknown", words.road(left, 0), Due.UNKNOWN);
                DUE.due("18: the one before is known", words.road(left - 1, 0), left == 0 ? Due.UNKNOWN : 3);
            }
            DUE.due("18: drop() of none", words.drop(), Due.STATE);
            DUE.due("18: drop() of none again", words.drop(), Due.STATE);
        }
        EDGE.refused("18: drop() of none", RiverWords::new, RiverWords::drop, Due.STATE);
        EDGE.refused("18: drop() of none with a page and a river", () -> Edge.laid(12, "LR"), RiverWords::drop, Due.STATE);
        EDGE.same("18: the last road is removed, and no other", () -> {
            RiverWords words = Due.with("LR", "R2");
            words.cut(99, 70);
            words.drop();
            return words;
        }, () -> Due.with("LR", "R2"));
    }
}
