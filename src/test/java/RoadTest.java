/** Promises 6 to 12: what is told of the roads. */
final class RoadTest {
    private static final Due DUE = new Due();

    public static void main(String[] args) {
        road();
        sign();
        table();
        form();
        end();
        alike();
        cross();
        DUE.finish("RoadTest");
    }

    private static long[] roadRow(RiverWords words, int road) {
        long[] row = new long[10];
        for (int what = 0; what < row.length; what++) {
            row[what] = words.road(road, what);
        }
        return row;
    }

    private static void road() {
        RiverWords words = Due.with("L", "RL", "RRLRRL", "LLRLRR", "L2R2L", "R9R9R2");
        DUE.row("6: L", roadRow(words, 0), 1, 1, 0, 1, 0, 2, 0, 1, 0, 0);
        DUE.row("6: RL", roadRow(words, 1), 2, 1, 1, 2, 1, 3, 1, 1, 1, 1);
        // (RRL)^2: RRL is (3, 2; 1, 1) with trace 4, and its square has the trace 4 * 4 - 2.
        DUE.row("6: RRLRRL", roadRow(words, 2), 6, 2, 4, 3, 2, 14, 1, 1, 0, 0);
        // LLR is (1, 1; 2, 3), LRR is (1, 2; 1, 3): the product is (2, 5; 5, 13).
        DUE.row("6: LLRLRR", roadRow(words, 3), 6, 3, 3, 6, 0, 15, 1, 0, 0, 1);
        // LLRR is (1, 2; 2, 5), times L is (3, 2; 7, 5); its least rotation LLLRR begins at index 4.
        DUE.row("6: LLRRL", roadRow(words, 4), 5, 3, 2, 5, 4, 8, 1, 1, 0, 0);
        DUE.row("6: R^20", roadRow(words, 5), 20, 0, 20, 1, 0, 2, 0, 1, 0, 0);
        DUE.row("6: LRLR", roadRow(Due.with("LRLR"), 0), 4, 2, 2, 2, 0, 7, 1, 1, 1, 1);
        // The reversal of LLRLRRRL's complement is RLLLRLRR, which is no rotation of it; nor are the others.
        DUE.row("6: L3RLR2", roadRow(Due.with("L3RLR2"), 0), 7, 4, 3, 7, 0, 20, 1, 0, 0, 0);
        // The complement of LLLRRLRRRLLR is RRRLLRLLLRRL, a rotation by 6; the reversal is none.
        DUE.row("6: L3R2LR3L2R", roadRow(Due.with("L3R2LR3L2R"), 0), 12, 6, 6, 12, 0, 146, 1, 0, 1, 0);
        DUE.due("6: the greatest trace", Due.with("LRLRLRLRLRLRLRLRLRLR").road(0, 5), 15127);
        for (int wild : Due.WILD) {
            DUE.refused(words, "6: road(" + wild + ", 0)", () -> words.road(wild, 0), Due.UNKNOWN);
            DUE.refused(words, "6: road(" + wild + ", 10)", () -> words.road(wild, 10), Due.UNKNOWN);
            DUE.refused(words, "6: road(0, " + wild + ")", () -> words.road(0, wild), Due.OUTSIDE);
        }
        DUE.due("6: road(0, 10)", words.road(0, 10), Due.OUTSIDE);
        DUE.due("6: road(6, 0)", words.road(6, 0), Due.UNKNOWN);
        words.drop();
        DUE.due("6: road(5, 0) after drop()", words.road(5, 0), Due.UNKNOWN);
    }

    private static void sign() {
        RiverWords words = Due.with("LR2", "R");
        DUE.due("7: sign(0, 0)", words.sign(0, 0), 76);
        DUE.due("7: sign(0, 1)", words.sign(0, 1), 82);
        DUE.due("7: sign(0, 2)", words.sign(0, 2), 82);
        DUE.due("7: sign(0, 3)", words.sign(0, 3), Due.UNKNOWN);
        DUE.due("7: sign(1, 0)", words.sign(1, 0), 82);
        DUE.due("7: sign(1, 1)", words.sign(1, 1), Due.UNKNOWN);
        DUE.due("7: sign(2, 0)", words.sign(2, 0), Due.UNKNOWN);
        for (int wild : Due.WILD) {
            DUE.refused(words, "7: sign(" + wild + ", 0)", () -> words.sign(wild, 0), Due.UNKNOWN);
            DUE.refused(words, "7: sign(0, " + wild + ")", () -> words.sign(0, wild), Due.UNKNOWN);
        }
        RiverWords longest = Due.with("L9R9LR");
        DUE.due("7: sign(0, 19)", longest.sign(0, 19), 82);
        DUE.due("7: sign(0, 18)", longest.sign(0, 18), 76);
        DUE.due("7: sign(0, 20)", longest.sign(0, 20), Due.UNKNOWN);
    }

    private static void tableRow(RiverWords words, int road, long a, long b, long c, long d) {
        long[] row = {words.table(road, 0), words.table(road, 1), words.table(road, 2), words.table(road, 3)};
        DUE.row("8: road " + road, row, a, b, c, d);
    }

    private static void table() {
        RiverWords words = Due.with("L", "R", "LR", "RL", "L3R2", "LRLRLRLRLRLRLRLRLRLR");
        tableRow(words, 0, 1, 0, 1, 1);
        tableRow(words, 1, 1, 1, 0, 1);
        tableRow(words, 2, 1, 1, 1, 2);
        tableRow(words, 3, 2, 1, 1, 1);
        tableRow(words, 4, 1, 2, 3, 7);
        tableRow(words, 5, 4181, 6765, 6765, 10946);
        for (int wild : Due.WILD) {
            DUE.refused(words, "8: table(" + wild + ", 4)", () -> words.table(wild, 4), Due.UNKNOWN);
            DUE.refused(words, "8: table(0, " + wild + ")", () -> words.table(0, wild), Due.OUTSIDE);
        }
        DUE.due("8: table(6, 0)", words.table(6, 0), Due.UNKNOWN);
        DUE.due("8: table(0, 4)", words.table(0, 4), Due.OUTSIDE);
    }

    private static void formRow(RiverWords words, int road, long... want) {
        long[] row = new long[5];
        for (int what = 0; what < row.length; what++) {
            row[what] = words.form(road, what);
        }
        DUE.row("9: road " + road, row, want);
    }

    private static void form() {
        RiverWords words = Due.with("LR", "RL", "L2R2", "L9R", "LRLRLRLRLRLRLRLRLRLR", "R2");
        formRow(words, 0, 1, 1, -1, 1, 5);
        formRow(words, 1, 1, -1, -1, 1, 5);
        formRow(words, 2, 1, 2, -1, 2, 8);
        formRow(words, 3, 9, 9, -1, 1, 117);
        formRow(words, 4, 1, 1, -1, 6765, 5);
        DUE.refused(words, "9: form(5, 0)", () -> words.form(5, 0), Due.STATE);
        DUE.refused(words, "9: form(5, 4)", () -> words.form(5, 4), Due.STATE);
        DUE.refused(words, "9: form(5, 5)", () -> words.form(5, 5), Due.OUTSIDE);
        DUE.refused(words, "9: form(0, 5)", () -> words.form(0, 5), Due.OUTSIDE);
        for (int wild : Due.WILD) {
            DUE.refused(words, "9: form(" + wild + ", 5)", () -> words.form(wild, 5), Due.UNKNOWN);
            DUE.refused(words, "9: form(5, " + wild + ")", () -> words.form(5, wild), Due.OUTSIDE);
        }
        RiverWords open = Due.with("L9", "L9R9LR", "LRLRLRLRLRLRLRLRLRL2");
        DUE.due("9: form of L9", open.form(0, 3), Due.STATE);
        // L9R9 is (1, 9; 9, 82), times LR is (10, 19; 91, 173), which has the grade 1.
        formRow(open, 1, 91, 163, -19, 1, 163L * 163 + 4 * 91 * 19);
        DUE.due("9: the discriminant of a long word", open.form(2, 4) * (long) open.form(2, 3) * open.form(2, 3),
            (long) open.road(2, 5) * open.road(2, 5) - 4);
    }

    private static void end() {
        RiverWords words = Due.with("L", "R", "LR", "RL", "L2R3", "LRLRLRLRLRLRLRLRLRLR");
        long[] row = new long[12];
        for (int i = 0; i < row.length; i++) {
            row[i] = words.end(i / 2, i % 2);
        }
        DUE.row("10", row, 1, 2, 2, 1, 2, 3, 3, 2, 4, 9, 10946, 17711);
        for (int wild : Due.WILD) {
            DUE.refused(words, "10: end(" + wild + ", 2)", () -> words.end(wild, 2), Due.UNKNOWN);
            DUE.refused(words, "10: end(0, " + wild + ")", () -> words.end(0, wild), Due.OUTSIDE);
        }
        DUE.due("10: end(6, 0)", words.end(6, 0), Due.UNKNOWN);
        DUE.due("10: end(0, 2)", words.end(0, 2), Due.OUTSIDE);
    }

    private static void alike() {
        RiverWords words = Due.with("LLRLR", "RLLRL", "LLRLRL", "RRR", "LRLR", "RLRL");
        DUE.due("11: alike(0, 1)", words.alike(0, 1), 4);
        DUE.due("11: alike(1, 0)", words.alike(1, 0), 1);
        DUE.due("11: alike(0, 0)", words.alike(0, 0), 0);
        DUE.due("11: alike(3, 3)", words.alike(3, 3), 0);
        DUE.due("11: alike(4, 5)", words.alike(4, 5), 1);
        DUE.due("11: alike(5, 4)", words.alike(5, 4), 1);
        DUE.due("11: alike(4, 4)", words.alike(4, 4), 0);
        DUE.refused(words, "11: alike(0, 2)", () -> words.alike(0, 2), Due.NONE);
        DUE.refused(words, "11: alike(2, 0)", () -> words.alike(2, 0), Due.NONE);
        DUE.refused(words, "11: alike(0, 3)", () -> words.alike(0, 3), Due.NONE);
        RiverWords same = Due.with("LLR", "LRR", "LLLR", "LR", "LRLR");
        DUE.due("11: the same length", same.alike(0, 1), Due.NONE);
        DUE.due("11: the same letters but one", same.alike(0, 2), Due.NONE);
        DUE.due("11: a power", same.alike(3, 4), Due.NONE);
        for (int wild : Due.WILD) {
            DUE.refused(words, "11: alike(" + wild + ", 0)", () -> words.alike(wild, 0), Due.UNKNOWN);
            DUE.refused(words, "11: alike(0, " + wild + ")", () -> words.alike(0, wild), Due.UNKNOWN);
        }
        DUE.due("11: alike(0, 6)", words.alike(0, 6), Due.UNKNOWN);
        DUE.due("11: alike(6, 0)", words.alike(6, 0), Due.UNKNOWN);
    }

    private static void cross() {
        RiverWords words = Due.with("LR", "LLR", "L", "LRLR", "L9R9LR", "L9L9LR");
        DUE.due("12: cross(0, 0)", words.cross(0, 0), 2);
        // Worked by hand: LR at i and LLR at j cross at (0, 2) and at (1, 0).
        DUE.due("12: cross(0, 1)", words.cross(0, 1), 2);
        DUE.due("12: cross(1, 0)", words.cross(1, 0), 2);
        DUE.due("12: cross(0, 3)", words.cross(0, 3), 4);
        DUE.due("12: cross(3, 3)", words.cross(3, 3), 8);
        DUE.due("12: cross of long words", words.cross(4, 5), new Model("L9R9LR", "L9L9LR").cross(0, 1));
        DUE.due("12: cross of a long word with itself", words.cross(5, 5), new Model("L9L9LR").cross(0, 0));
        DUE.refused(words, "12: cross(0, 2)", () -> words.cross(0, 2), Due.STATE);
        DUE.refused(words, "12: cross(2, 0)", () -> words.cross(2, 0), Due.STATE);
        DUE.refused(words, "12: cross(2, 2)", () -> words.cross(2, 2), Due.STATE);
        for (int wild : Due.WILD) {
            DUE.refused(words, "12: cross(" + wild + ", 2)", () -> words.cross(wild, 2), Due.UNKNOWN);
            DUE.refused(words, "12: cross(2, " + wild + ")", () -> words.cross(2, wild), Due.UNKNOWN);
        }
        DUE.due("12: cross(0, 6)", words.cross(0, 6), Due.UNKNOWN);
    }
}
