/** Promises 13 to 18: what changes, adds and removes roads. */
final class RoadChangeTest {
    private static final Due DUE = new Due();

    public static void main(String[] args) {
        turn();
        change();
        join();
        times();
        cut();
        drop();
        DUE.finish("RoadChangeTest");
    }

    private static void turn() {
        RiverWords words = Due.with("LLRLR", "LRLR", "R", "L9R9LR");
        DUE.due("13: turn(0, 2)", words.turn(0, 2), 5);
        DUE.letters("13: turn(0, 2)", words, 0, "RLRLL");
        DUE.due("13: turn(0, 0)", words.turn(0, 0), 5);
        DUE.letters("13: turn(0, 0)", words, 0, "RLRLL");
        DUE.due("13: turn(0, 4)", words.turn(0, 4), 5);
        DUE.letters("13: turn(0, 4)", words, 0, "LRLRL");
        DUE.due("13: turn(1, 3)", words.turn(1, 3), 2);
        DUE.letters("13: turn(1, 3)", words, 1, "RLRL");
        DUE.due("13: the matrix turns too", words.table(1, 0), 5);
        DUE.due("13: turn(2, 0)", words.turn(2, 0), 1);
        DUE.due("13: turn(3, 19)", words.turn(3, 19), 20);
        DUE.letters("13: turn(3, 19)", words, 3, "RLLLLLLLLLRRRRRRRRRL");
        DUE.refused(words, "13: turn(0, 5)", () -> words.turn(0, 5), Due.OUTSIDE);
        DUE.refused(words, "13: turn(2, 1)", () -> words.turn(2, 1), Due.OUTSIDE);
        DUE.refused(words, "13: turn(4, 0)", () -> words.turn(4, 0), Due.UNKNOWN);
        for (int wild : Due.WILD) {
            DUE.refused(words, "13: turn(" + wild + ", -1)", () -> words.turn(wild, -1), Due.UNKNOWN);
            DUE.refused(words, "13: turn(0, " + wild + ")", () -> words.turn(0, wild), Due.OUTSIDE);
        }
    }

    private static void change() {
        RiverWords words = Due.with("RLLRL", "R3", "L9R9LR", "RLRL");
        DUE.due("14: change(0, 0)", words.change(0, 0), 10);
        DUE.letters("14: change(0, 0)", words, 0, "LRLLR");
        DUE.due("14: change(0, 1)", words.change(0, 1), 10);
        DUE.letters("14: change(0, 1)", words, 0, "RLRRL");
        DUE.due("14: change(0, 2)", words.change(0, 2), 10);
        DUE.letters("14: change(0, 2)", words, 0, "LRLRR");
        DUE.due("14: change(0, 2) again", words.change(0, 2), 10);
        DUE.letters("14: change(0, 2) again", words, 0, "LRLRR");
        DUE.due("14: change(1, 1)", words.change(1, 1), 2);
        DUE.letters("14: change(1, 1)", words, 1, "LLL");
        DUE.due("14: the matrix changes too", words.table(1, 2), 3);
        words.change(2, 0);
        DUE.letters("14: change(2, 0)", words, 2, "RLRRRRRRRRRLLLLLLLLL");
        words.change(2, 1);
        DUE.letters("14: change(2, 1)", words, 2, "LRLLLLLLLLLRRRRRRRRR");
        words.change(2, 2);
        DUE.letters("14: change(2, 2)", words, 2, "LLLLLLLLLRRRRRRRRRLR");
        DUE.due("14: change(3, 2)", words.change(3, 2), 7);
        DUE.letters("14: change(3, 2)", words, 3, "LRLR");
        DUE.refused(words, "14: change(0, 3)", () -> words.change(0, 3), Due.OUTSIDE);
        DUE.refused(words, "14: change(4, 0)", () -> words.change(4, 0), Due.UNKNOWN);
        for (int wild : Due.WILD) {
            DUE.refused(words, "14: change(" + wild + ", 3)", () -> words.change(wild, 3), Due.UNKNOWN);
            DUE.refused(words, "14: change(0, " + wild + ")", () -> words.change(0, wild), Due.OUTSIDE);
        }
    }

    private static void join() {
        RiverWords words = Due.with("L2R", "RLRR", "L9R8");
        DUE.due("15: join(0, 1)", words.join(0, 1), 3);
        DUE.letters("15: join(0, 1)", words, 3, "LLRRLRR");
        DUE.letters("15: the first stays", words, 0, "LLR");
        DUE.letters("15: the other stays", words, 1, "RLRR");
        DUE.due("15: join(2, 0) of 20 letters", words.join(2, 0), 4);
        DUE.letters("15: join(2, 0)", words, 4, "LLLLLLLLLRRRRRRRRLLR");
        DUE.refused(words, "15: join(2, 1) of 21 letters", () -> words.join(2, 1), Due.STATE);
        DUE.refused(words, "15: join(4, 4) of 40 letters", () -> words.join(4, 4), Due.STATE);
        DUE.due("15: join(0, 0)", words.join(0, 0), 5);
        DUE.due("15: two letters R", words.road(5, 2), 2);
        DUE.letters("15: join(0, 0)", words, 5, "LLRLLR");
        DUE.due("15: a joined road is not read", words.count(4), 3);
        DUE.refused(words, "15: join(0, 1) with six roads", () -> words.join(0, 1), Due.FULL);
        DUE.refused(words, "15: join(2, 1) with six roads", () -> words.join(2, 1), Due.STATE);
        DUE.refused(words, "15: join(6, 1) with six roads", () -> words.join(6, 1), Due.UNKNOWN);
        DUE.refused(words, "15: join(1, 6) with six roads", () -> words.join(1, 6), Due.UNKNOWN);
        for (int wild : Due.WILD) {
            DUE.refused(words, "15: join(" + wild + ", 0)", () -> words.join(wild, 0), Due.UNKNOWN);
            DUE.refused(words, "15: join(0, " + wild + ")", () -> words.join(0, wild), Due.UNKNOWN);
        }
    }

    private static void times() {
        RiverWords words = Due.with("LLR", "L5", "L9LR");
        DUE.due("16: times(0, 2)", words.times(0, 2), 3);
        DUE.letters("16: times(0, 2)", words, 3, "LLRLLR");
        DUE.due("16: times(0, 5)", words.times(0, 5), 4);
        DUE.letters("16: times(0, 5)", words, 4, "LLRLLRLLRLLRLLR");
        DUE.refused(words, "16: times(2, 2) of 22 letters", () -> words.times(2, 2), Due.STATE);
        DUE.refused(words, "16: times(1, 5) of 25 letters", () -> words.times(1, 5), Due.STATE);
        DUE.refused(words, "16: times(0, 1)", () -> words.times(0, 1), Due.OUTSIDE);
        DUE.refused(words, "16: times(0, 6)", () -> words.times(0, 6), Due.OUTSIDE);
        DUE.due("16: times(1, 4) of 20 letters", words.times(1, 4), 5);
        DUE.letters("16: times(1, 4)", words, 5, "LLLLLLLLLLLLLLLLLLLL");
        DUE.refused(words, "16: times(5, 5) of 100 letters", () -> words.times(5, 5), Due.STATE);
        DUE.refused(words, "16: times(0, 2) with six roads", () -> words.times(0, 2), Due.FULL);
        DUE.refused(words, "16: times(2, 2) with six roads", () -> words.times(2, 2), Due.STATE);
        DUE.refused(words, "16: times(2, 6) with six roads", () -> words.times(2, 6), Due.OUTSIDE);
        DUE.refused(words, "16: times(6, 6) with six roads", () -> words.times(6, 6), Due.UNKNOWN);
        // What is counted and compared sees letters that no index reaches.
        RiverWords rights = Due.with("R2", "R6", "LR");
        DUE.due("16: times(0, 3)", rights.times(0, 3), 3);
        DUE.due("16: no letter too many", rights.road(3, 2), 6);
        DUE.due("16: not closed", rights.road(3, 6), 0);
        DUE.due("16: equal to the word that was read", rights.alike(3, 1), 0);
        DUE.due("16: times(2, 4)", rights.times(2, 4), 4);
        DUE.due("16: four letters R", rights.road(4, 2), 4);
        DUE.due("16: four letters L", rights.road(4, 1), 4);
        for (int wild : Due.WILD) {
            DUE.refused(words, "16: times(" + wild + ", 1)", () -> words.times(wild, 1), Due.UNKNOWN);
            DUE.refused(words, "16: times(2, " + wild + ")", () -> words.times(2, wild), Due.OUTSIDE);
        }
    }

    private static void cut() {
        RiverWords words = new RiverWords();
        DUE.due("17: cut(3, 5)", words.cut(3, 5), 0);
        DUE.letters("17: cut(3, 5)", words, 0, "LRL");
        DUE.due("17: cut(5, 3)", words.cut(5, 3), 1);
        DUE.letters("17: cut(5, 3)", words, 1, "RLR");
        DUE.due("17: cut(2, 1)", words.cut(2, 1), 2);
        DUE.letters("17: cut(2, 1)", words, 2, "R");
        DUE.due("17: cut(1, 21)", words.cut(1, 21), 3);
        DUE.letters("17: cut(1, 21)", words, 3, "LLLLLLLLLLLLLLLLLLLL");
        DUE.due("17: cut(99, 98) is too long", words.cut(99, 98), Due.STATE);
        DUE.due("17: cut(99, 50)", words.cut(99, 50), Due.STATE);
        DUE.due("17: cut(99, 70)", words.cut(99, 70), 4);
        DUE.letters("17: cut(99, 70)", words, 4, "RLLRRLLRRL");
        DUE.due("17: the end is the fraction, p", words.end(4, 0), 99);
        DUE.due("17: the end is the fraction, q", words.end(4, 1), 70);
        DUE.refused(words, "17: cut(1, 22)", () -> words.cut(1, 22), Due.STATE);
        DUE.refused(words, "17: cut(99, 1)", () -> words.cut(99, 1), Due.STATE);
        DUE.refused(words, "17: cut(1, 1)", () -> words.cut(1, 1), Due.OUTSIDE);
        DUE.refused(words, "17: cut(2, 2)", () -> words.cut(2, 2), Due.OUTSIDE);
        DUE.refused(words, "17: cut(98, 49)", () -> words.cut(98, 49), Due.OUTSIDE);
        DUE.refused(words, "17: cut(100, 1)", () -> words.cut(100, 1), Due.OUTSIDE);
        DUE.refused(words, "17: cut(1, 100)", () -> words.cut(1, 100), Due.OUTSIDE);
        DUE.refused(words, "17: cut(0, 1)", () -> words.cut(0, 1), Due.OUTSIDE);
        DUE.refused(words, "17: cut(1, 0)", () -> words.cut(1, 0), Due.OUTSIDE);
        DUE.refused(words, "17: cut(0, 0)", () -> words.cut(0, 0), Due.OUTSIDE);
        DUE.due("17: cut(34, 55)", words.cut(34, 55), 5);
        DUE.letters("17: cut(34, 55)", words, 5, "LRLRLRLR");
        DUE.refused(words, "17: cut(3, 5) with six roads", () -> words.cut(3, 5), Due.FULL);
        DUE.refused(words, "17: cut(99, 1) with six roads", () -> words.cut(99, 1), Due.STATE);
        DUE.refused(words, "17: cut(6, 4) with six roads", () -> words.cut(6, 4), Due.OUTSIDE);
        for (int wild : Due.WILD) {
            DUE.refused(words, "17: cut(" + wild + ", 1)", () -> words.cut(wild, 1), Due.OUTSIDE);
            DUE.refused(words, "17: cut(1, " + wild + ")", () -> words.cut(1, wild), Due.OUTSIDE);
        }
        everyCut();
    }

    private static void everyCut() {
        Model model = new Model();
        for (int p = 0; p <= 100; p++) {
            for (int q = 0; q <= 100; q++) {
                RiverWords words = new RiverWords();
                int want = model.cut(p, q);
                DUE.due("17: cut(" + p + ", " + q + ")", words.cut(p, q), want);
                if (want == 0) {
                    DUE.letters("17: cut(" + p + ", " + q + ")", words, 0, model.letters(0));
                    DUE.due("17: digest after cut(" + p + ", " + q + ")", words.digest(), model.digest());
                    model.drop();
                }
            }
        }
    }

    private static void drop() {
        RiverWords words = Due.with("LR", "L2");
        words.river(5);
        Due.page(words, "R");
        DUE.due("18: drop()", words.drop(), 1);
        DUE.letters("18: the first road stays", words, 0, "LR");
        DUE.due("18: the last road is gone", words.road(1, 0), Due.UNKNOWN);
        DUE.due("18: drop() of the last one", words.drop(), 0);
        DUE.refused(words, "18: drop() of none", words::drop, Due.STATE);
        DUE.due("18: the river stays", words.count(5), 2);
        DUE.due("18: the page stays", words.count(3), 1);
        DUE.due("18: the readings stay", words.count(4), 2);
        DUE.due("18: the number is free again", words.word(), 0);
    }
}
