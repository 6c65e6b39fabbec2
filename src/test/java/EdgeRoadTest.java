/** The boundary cases of promises 6 to 12, and of what "Words" says of words, in the document's order. */
final class EdgeRoadTest {
    private static final Due DUE = new Due();
    private static final Edge EDGE = new Edge(DUE);
    private static final String TWENTY = "LRLRLRLRLRLRLRLRLRLR";
    private static final String L19R = "LLLLLLLLLLLLLLLLLLLR", RL19 = "RLLLLLLLLLLLLLLLLLLL", R19L = "RRRRRRRRRRRRRRRRRRRL";
    private static final String L20 = "LLLLLLLLLLLLLLLLLLLL", R20 = "RRRRRRRRRRRRRRRRRRRR";
    /** Closed words of 1 to 20 letters that are no rotations of each other. */
    private static final String[] CLOSED = {"LR", "LLR", "LRR", "LLRR", "LLRLR", "L3RLR2", "L9R", "R9L2", "L9R9LR", L19R, R19L};

    public static void main(String[] args) {
        roadNumbers();
        propertyNumbers();
        unknownBeforeOutside();
        periods();
        leastRotations();
        closedWords();
        conjugates();
        letterIndexes();
        matrices();
        forms();
        formErrors();
        ends();
        alikeEdges();
        crossErrors();
        crossingsBehindTheFirstLetter();
        crossingsOfTurnedWords();
        crossingsOfRepeatedWords();
        DUE.finish("EdgeRoadTest");
    }

    private static RiverWords of(String word) {
        return Due.with(word);
    }

    private static final Edge.Numbered[] BY_ROAD = {(words, n) -> words.road(n, 0), (words, n) -> words.sign(n, 0),
        (words, n) -> words.table(n, 0), (words, n) -> words.form(n, 0), (words, n) -> words.end(n, 0),
        (words, n) -> words.alike(n, 0), (words, n) -> words.alike(0, n), (words, n) -> words.cross(n, 0),
        (words, n) -> words.cross(0, n)};

    /** "numbered from 0; at first there are none", "UNKNOWN: there is no such road" */
    private static void roadNumbers() {
        for (int roads = 0; roads <= 6; roads++) {
            String[] texts = new String[roads];
            java.util.Arrays.fill(texts, "LLR");
            for (int call = 0; call < BY_ROAD.length; call++) {
                Edge.Numbered asked = BY_ROAD[call];
                String name = "6 to 12: call " + call + " with " + roads + " roads";
                if (roads > 0) {
                    EDGE.range(name, () -> Due.with(texts), asked, 0, roads - 1, Due.UNKNOWN);
                } else {
                    EDGE.refused(name, RiverWords::new, words -> asked.answer(words, 0), Due.UNKNOWN);
                }
            }
        }
        RiverWords dropped = Edge.SIX.make();
        dropped.drop();
        DUE.due("6: road 5 when it is dropped", dropped.road(5, 0), Due.UNKNOWN);
        DUE.due("6: road 4 when 5 is dropped", dropped.road(4, 0), 2);
    }

    /** "OUTSIDE if what is not 0 to 9", "0 to 3", "0 to 4", "0 or 1" */
    private static void propertyNumbers() {
        for (int road = 0; road < 6; road++) {
            int at = road;
            EDGE.range("6: what of road " + road, Edge.SIX, (words, what) -> words.road(at, what), 0, 9, Due.OUTSIDE);
            EDGE.range("8: what of road " + road, Edge.SIX, (words, what) -> words.table(at, what), 0, 3, Due.OUTSIDE);
            EDGE.range("10: what of road " + road, Edge.SIX, (words, what) -> words.end(at, what), 0, 1, Due.OUTSIDE);
        }
        EDGE.range("9: what", Edge.SIX, (words, what) -> words.form(0, what), 0, 4, Due.OUTSIDE);
        EDGE.range("9: what of 20 letters", Edge.SIX, (words, what) -> words.form(1, what), 0, 4, Due.OUTSIDE);
    }

    private static void unknownBeforeOutside() {
        for (int road : new int[] {-1, 6, Integer.MIN_VALUE, Integer.MAX_VALUE}) {
            for (int what : new int[] {-1, 2, 4, 5, 10, 20, Integer.MIN_VALUE, Integer.MAX_VALUE}) {
                EDGE.refusedAlways("6: road(" + road + ", " + what + ")", words -> words.road(road, what), Due.UNKNOWN);
                EDGE.refusedAlways("7: sign(" + road + ", " + what + ")", words -> words.sign(road, what), Due.UNKNOWN);
                EDGE.refusedAlways("8: table(" + road + ", " + what + ")", words -> words.table(road, what), Due.UNKNOWN);
                EDGE.refusedAlways("9: form(" + road + ", " + what + ")", words -> words.form(road, what), Due.UNKNOWN);
                EDGE.refusedAlways("10: end(" + road + ", " + what + ")", words -> words.end(road, what), Due.UNKNOWN);
            }
        }
    }

    private static void property(String word, int what, int want) {
        EDGE.told("6: road(0, " + what + ") of " + word, () -> of(word), words -> words.road(0, what), want);
    }

    /** "The period is the smallest k above 0 with which the rotation is equal to the word." */
    private static void periods() {
        property("L", 3, 1);
        property("R", 3, 1);
        property("LL", 3, 1);
        property("LR", 3, 2);
        property("LRL", 3, 3);
        property(L20, 3, 1);
        property(R20, 3, 1);
        property(TWENTY, 3, 2);
        property("LLRLRLLRLRLLRLRLLRLR", 3, 5);
        property("LLLRLLLRLLLRLLLRLLLR", 3, 4);
        property("L9RL9R", 3, 10);
        property("L9RL8R2", 3, 20);
        property(L19R, 3, 20);
        property(RL19, 3, 20);
        // The letters repeat after 6 and after 7 of them, but no rotation by 6 or 7 is the word.
        property("LRLRLRL", 3, 7);
        property("LLRLLRLLRL", 3, 10);
    }

    /** "the smallest k with which its rotation is the least rotation", with a rotation that goes round. */
    private static void leastRotations() {
        for (int place = 0; place < 20; place++) {
            // The only R comes last in the least rotation, so that the rotation begins behind it.
            String word = L20.substring(0, place) + "R" + L20.substring(place + 1);
            property(word, 4, (place + 1) % 20);
            String opposite = R20.substring(0, place) + "L" + R20.substring(place + 1);
            property(opposite, 4, place);
        }
        property("L", 4, 0);
        property("R", 4, 0);
        property(L20, 4, 0);
        property(R20, 4, 0);
        property(TWENTY, 4, 0);
        property("RLRLRLRLRLRLRLRLRLRL", 4, 1);
        property("RL", 4, 1);
        property("L9RL9R", 4, 0);
        property("RL9RL9", 4, 1);
        // LLLRLLL: the letters L at the end belong to those at the start.
        property("LLLRLLL", 4, 4);
        property("LLRLLLRLL", 4, 7);
    }

    /** "A word is closed if it contains both letters." */
    private static void closedWords() {
        for (int place = 0; place < 20; place++) {
            String word = L20.substring(0, place) + "R" + L20.substring(place + 1);
            property(word, 6, 1);
            property(word, 0, 20);
            property(word, 1, 19);
            property(word, 2, 1);
            property(R20.substring(0, place) + "L" + R20.substring(place + 1), 6, 1);
        }
        for (int size = 1; size <= 20; size++) {
            property(L20.substring(0, size), 6, 0);
            property(R20.substring(0, size), 6, 0);
            property(L20.substring(0, size), 1, size);
            property(L20.substring(0, size), 2, 0);
            property(R20.substring(0, size), 1, 0);
            property(R20.substring(0, size), 2, size);
        }
        property("LR", 6, 1);
        property("RL", 6, 1);
    }

    private static void conjugateRow(String word, int reversal, int complement, int both) {
        property(word, 7, reversal);
        property(word, 8, complement);
        property(word, 9, both);
    }

    /** "Two words are conjugate if they have the same least rotation." */
    private static void conjugates() {
        conjugateRow("L", 1, 0, 0);
        conjugateRow("R", 1, 0, 0);
        conjugateRow("LR", 1, 1, 1);
        conjugateRow("LLR", 1, 0, 0);
        conjugateRow(L20, 1, 0, 0);
        conjugateRow(TWENTY, 1, 1, 1);
        conjugateRow(L19R, 1, 0, 0);
        conjugateRow("LLRLRR", 0, 0, 1);
        conjugateRow("L3R2LR3L2R", 0, 1, 0);
        conjugateRow("L3RLR2", 0, 0, 0);
        conjugateRow("LLLLLLLLLLRRRRRRRRRR", 1, 1, 1);
        conjugateRow("L9LRL9", 1, 0, 0);
        // 10 letters and then their complement: only the complement is a rotation, by 10.
        conjugateRow("LLLLLLLRLL" + "RRRRRRRLRR", 0, 1, 0);
    }

    /** "index of the letter, from 0", "UNKNOWN if there is no such road or index" */
    private static void letterIndexes() {
        for (int size = 1; size <= 20; size++) {
            String word = TWENTY.substring(0, size);
            EDGE.range("7: sign of " + word, () -> of(word), (words, place) -> words.sign(0, place), 0, size - 1, Due.UNKNOWN);
            for (int place = 0; place < size; place++) {
                DUE.due("7: sign(0, " + place + ") of " + word, of(word).sign(0, place), word.charAt(place));
            }
        }
    }

    private static void matrix(String word, long... want) {
        RiverWords words = of(word);
        long[] row = {words.table(0, 0), words.table(0, 1), words.table(0, 2), words.table(0, 3)};
        DUE.row("8: the matrix of " + word, row, want);
    }

    /** "the product of the matrices of its letters from left to right" */
    private static void matrices() {
        matrix("L", 1, 0, 1, 1);
        matrix("R", 1, 1, 0, 1);
        matrix(L20, 1, 0, 20, 1);
        matrix(R20, 1, 20, 0, 1);
        // (1, 0; 19, 1) times (1, 1; 0, 1), and the other way round.
        matrix(L19R, 1, 1, 19, 20);
        matrix(RL19, 20, 1, 19, 1);
        matrix(R19L, 20, 19, 1, 1);
        matrix("LLLLLLLLLLRRRRRRRRRR", 1, 10, 10, 101);
        matrix("RRRRRRRRRRLLLLLLLLLL", 101, 10, 10, 1);
        // Fibonacci's numbers: the greatest entries that 20 letters have.
        matrix(TWENTY, 4181, 6765, 6765, 10946);
        property(TWENTY, 5, 15127);
        property(L20, 5, 2);
        property("L", 5, 2);
        property(L19R, 5, 21);
        property("LLLLLLLLLLRRRRRRRRRR", 5, 102);
    }

    private static void form(String word, long... want) {
        RiverWords words = of(word);
        long[] row = {words.form(0, 0), words.form(0, 1), words.form(0, 2), words.form(0, 3), words.form(0, 4)};
        DUE.row("9: the form of " + word, row, want);
    }

    /** "(C / g, (D - A) / g, -B / g), where g, its grade, is the greatest common divisor" */
    private static void forms() {
        form("LR", 1, 1, -1, 1, 5);
        form("RL", 1, -1, -1, 1, 5);
        form(L19R, 19, 19, -1, 1, 437);
        form(R19L, 1, -19, -19, 1, 437);
        form("LLLLLLLLLLRRRRRRRRRR", 1, 10, -1, 10, 104);
        // A reversal has A and D in each other's place, so D - A is 0 for a word that is its own reversal.
        form("LRRL", 2, 0, -1, 2, 8);
        form("RLLR", 1, 0, -2, 2, 8);
        form(TWENTY, 1, 1, -1, 6765, 5);
        form("RLRLRLRLRLRLRLRLRLRL", 1, -1, -1, 6765, 5);
    }

    /** UNKNOWN, then OUTSIDE, then "STATE if the road is not closed". */
    private static void formErrors() {
        for (String open : new String[] {"L", "R", L20, R20}) {
            for (int what = 0; what <= 4; what++) {
                int told = what;
                EDGE.refused("9: form(0, " + what + ") of " + open, () -> of(open), words -> words.form(0, told), Due.STATE);
            }
            for (int what : new int[] {-1, 5, Integer.MIN_VALUE, Integer.MAX_VALUE}) {
                EDGE.refused("9: form(0, " + what + ") of " + open, () -> of(open), words -> words.form(0, what), Due.OUTSIDE);
                EDGE.refused("9: form(1, " + what + ")", () -> of(open), words -> words.form(1, what), Due.UNKNOWN);
            }
            EDGE.refused("9: form(1, 0)", () -> of(open), words -> words.form(1, 0), Due.UNKNOWN);
        }
    }

    private static void end(String word, int numerator, int denominator) {
        EDGE.told("10: end(0, 0) of " + word, () -> of(word), words -> words.end(0, 0), numerator);
        EDGE.told("10: end(0, 1) of " + word, () -> of(word), words -> words.end(0, 1), denominator);
    }

    /** "the fraction (A + B) / (C + D)", of closed words and others. */
    private static void ends() {
        end("L", 1, 2);
        end("R", 2, 1);
        end(L20, 1, 21);
        end(R20, 21, 1);
        end(L19R, 2, 39);
        end(R19L, 39, 2);
        end(TWENTY, 10946, 17711);
        end("RLRLRLRLRLRLRLRLRLRL", 17711, 10946);
    }

    private static void alike(String one, String other, int want) {
        EDGE.told("11: alike of " + one + " and " + other, () -> Due.with(one, other), words -> words.alike(0, 1), want);
    }

    /** "the smallest k for which the rotation of one road by k is equal to another one", "NONE if there is none" */
    private static void alikeEdges() {
        alike("L", "L", 0);
        alike("R", "L", Due.NONE);
        alike("L", "LL", Due.NONE);
        alike("LL", "L", Due.NONE);
        alike(L20, L20, 0);
        alike(L20, R20, Due.NONE);
        alike(TWENTY, "RLRLRLRLRLRLRLRLRLRL", 1);
        alike("RLRLRLRLRLRLRLRLRLRL", TWENTY, 1);
        alike(TWENTY, TWENTY, 0);
        alike(L19R, RL19, 19);
        alike(RL19, L19R, 1);
        alike("RL9RL9", "L9RL9R", 1);
        alike("L9RL9R", "RL9RL9", 9);
        alike("LR", "LRLR", Due.NONE);
        alike("LRLR", "LR", Due.NONE);
        alike("LLRLRR", "LRLLRR", Due.NONE);
        for (int by = 0; by < 20; by++) {
            alike("L9R9LR", Model.rotation("LLLLLLLLLRRRRRRRRRLR", by), by);
        }
        EDGE.told("11: a road with itself", Edge.SIX, words -> words.alike(5, 5), 0);
        EDGE.refused("11: alike(6, 6)", Edge.SIX, words -> words.alike(6, 6), Due.UNKNOWN);
        EDGE.refused("11: alike(-1, -1)", Edge.SIX, words -> words.alike(-1, -1), Due.UNKNOWN);
        // NONE is no error, and comes only when both roads are there.
        EDGE.refused("11: alike of a known and an unknown road", () -> of("L"), words -> words.alike(0, 1), Due.UNKNOWN);
    }

    /** UNKNOWN, then "STATE if one of them is not closed". */
    private static void crossErrors() {
        Edge.Start start = () -> Due.with("L", "LR", R20);
        int[][] notClosed = {{0, 0}, {0, 1}, {1, 0}, {0, 2}, {2, 1}, {1, 2}, {2, 2}};
        for (int[] pair : notClosed) {
            EDGE.refused("12: cross(" + pair[0] + ", " + pair[1] + ")", start, words -> words.cross(pair[0], pair[1]), Due.STATE);
        }
        EDGE.told("12: cross(1, 1)", start, words -> words.cross(1, 1), 2);
        for (int road = 0; road < 3; road++) {
            int known = road;
            for (int unknown : new int[] {-1, 3, Integer.MIN_VALUE, Integer.MAX_VALUE}) {
                EDGE.refused("12: cross(" + road + ", " + unknown + ")", start, words -> words.cross(known, unknown), Due.UNKNOWN);
                EDGE.refused("12: cross(" + unknown + ", " + road + ")", start, words -> words.cross(unknown, known), Due.UNKNOWN);
            }
        }
    }

    private static void cross(String one, String other, int want) {
        RiverWords words = Due.with(one, other);
        DUE.due("12: cross of " + one + " and " + other, words.cross(0, 1), want);
        DUE.due("12: cross of " + other + " and " + one, words.cross(1, 0), want);
    }

    /** "where the last letter of a word comes before its first one" */
    private static void crossingsBehindTheFirstLetter() {
        cross("LR", "LR", 2);
        cross("LR", "RL", 2);
        cross("LR", L19R, 2);
        cross("LR", RL19, 2);
        // By hand: they cross at (0, 0), before which the last letters are R and L, and at (2, 2).
        cross("LLR", "RRL", 2);
        // Two words that are the same for 34 letters before a crossing, more than either has, and no two are for more.
        cross("RLRLRLRLRLRLRLRLLR", "RLRLRLRLRLRLRLRLLRRL", 164);
        cross("RLLRLLRLLRLLRLLLR", "RLLRLLRLLRLLRLLLRRLL", 134);
        cross("LRLRLRRLLLRLRLRLRRLL", "LRLRLRRLLLR", 80);
        cross("LLLLRLLLLLLLRLLLLRLL", "LLLLRLLLLLLLR", 62);
        for (String one : CLOSED) {
            for (String other : CLOSED) {
                cross(one, other, Model.crossings(Due.letters(of(one), 0), Due.letters(of(other), 0)));
            }
        }
    }

    /** Words that go round without end have the same crossings wherever they begin. */
    private static void crossingsOfTurnedWords() {
        for (int by = 0; by < 20; by++) {
            RiverWords words = Due.with("RLRLRLRLRLRLRLRLLR", "RLRLRLRLRLRLRLRLLRRL", L19R);
            int itself = words.cross(1, 1);
            words.turn(0, by % 18);
            words.turn(1, by);
            words.turn(2, 19 - by);
            DUE.due("12: turned by " + by, words.cross(0, 1), 164);
            DUE.due("12: turned by " + by + " with itself", words.cross(1, 1), itself);
            DUE.due("12: the other one turned", words.cross(2, 2), Model.crossings(L19R, L19R));
        }
    }

    /** "repeated in both directions without end": a word n times over has n times the crossings. */
    private static void crossingsOfRepeatedWords() {
        for (String one : new String[] {"LR", "LLR", "LLRR", "LLRLR", "LLRLRR"}) {
            for (int n = 2; n <= 5; n++) {
                RiverWords words = Due.with(one, "LLLRLRRLRR", L19R);
                if (words.times(0, n) < 0) {
                    continue;
                }
                DUE.due("12: " + one + " " + n + " times", words.cross(0, 3), (long) n * words.cross(0, 0));
                DUE.due("12: " + one + " " + n + " times with itself", words.cross(3, 3), (long) n * n * words.cross(0, 0));
                DUE.due("12: " + one + " " + n + " times with 10 letters", words.cross(3, 1), (long) n * words.cross(0, 1));
                DUE.due("12: " + one + " " + n + " times with 20 letters", words.cross(2, 3), (long) n * words.cross(2, 0));
            }
        }
    }
}
