/** Promises 19 to 26: the rivers. */
final class RiverTest {
    private static final Due DUE = new Due();

    public static void main(String[] args) {
        river();
        everyRiver();
        simple();
        cycle();
        step();
        trace();
        flow();
        everyFlow();
        lay();
        where();
        DUE.finish("RiverTest");
    }

    private static RiverWords with(int d) {
        RiverWords words = new RiverWords();
        words.river(d);
        return words;
    }

    private static Model modelOf(int d) {
        Model model = new Model();
        model.river(d);
        return model;
    }

    private static void river() {
        RiverWords words = new RiverWords();
        int[] wrong = {4, 0, -3, -4, 1, 6, 7, 9, 10, 11, 16, 25, 36, 898, 899, 900, 901, 904, 905, 841, 784,
            Integer.MIN_VALUE, Integer.MAX_VALUE, -1};
        for (int d : wrong) {
            DUE.refused(words, "19: river(" + d + ") at first", () -> words.river(d), Due.OUTSIDE);
        }
        DUE.due("19: river(5)", words.river(5), 2);
        DUE.due("19: river(8)", words.river(8), 4);
        DUE.due("19: river(12)", words.river(12), 6);
        DUE.due("19: river(20)", words.river(20), 8);
        DUE.due("19: river(45)", words.river(45), 12);
        DUE.due("19: river(897)", words.river(897), new Model().river(897));
        DUE.due("19: river(896)", words.river(896), new Model().river(896));
        Due.page(words, "LR");
        words.word();
        Due.page(words, "R2");
        words.river(40);
        for (int d : wrong) {
            DUE.refused(words, "19: river(" + d + ")", () -> words.river(d), Due.OUTSIDE);
        }
        DUE.due("19: the roads stay", words.count(0), 1);
        DUE.due("19: the page stays", words.count(3), 2);
        DUE.due("19: the readings stay", words.count(4), 1);
        DUE.due("19: the river is replaced", words.river(5), 2);
        DUE.due("19: the old forms are gone", words.simple(2, 0), Due.UNKNOWN);
        DUE.due("19: the old cycles are gone", words.cycle(1, 0), Due.UNKNOWN);
    }

    /** Every river is compared whole, each after some others in the same object. */
    private static void everyRiver() {
        RiverWords words = new RiverWords();
        for (int d = 0; d <= 905; d++) {
            if (d % 12 == 2) {
                words = new RiverWords();
            }
            Model model = new Model();
            int size = model.river(d);
            DUE.due("19: river(" + d + ")", words.river(d), size);
            if (size < 0) {
                continue;
            }
            DUE.due("19: the cycles of river(" + d + ")", words.count(6), model.count(6));
            DUE.due("20, 21, 23: the digest of river(" + d + ")", words.digest(), model.digest());
            for (int cycle = 0; cycle < model.count(6); cycle++) {
                for (int m = 2; m <= 1000; m += 499) {
                    DUE.due("23: trace(" + cycle + ", " + m + ")", words.trace(cycle, m), model.trace(cycle, m));
                }
            }
        }
    }

    private static void simpleRow(RiverWords words, int form, long... want) {
        long[] row = new long[8];
        for (int what = 0; what < row.length; what++) {
            row[what] = words.simple(form, what);
        }
        DUE.row("20: form " + form, row, want);
    }

    private static void simple() {
        RiverWords words = with(12);
        // (1, -2, -2), (2, -2, -1), (1, 0, -3), (3, 0, -1), (1, 2, -2), (2, 2, -1)
        simpleRow(words, 0, 1, -2, -2, 0, 2, 'R', 4, 5);
        simpleRow(words, 1, 2, -2, -1, 1, 5, 'R', 5, 4);
        simpleRow(words, 2, 1, 0, -3, 0, 4, 'R', 2, 3);
        simpleRow(words, 3, 3, 0, -1, 1, 1, 'L', 3, 2);
        simpleRow(words, 4, 1, 2, -2, 0, 0, 'L', 0, 1);
        simpleRow(words, 5, 2, 2, -1, 1, 3, 'L', 1, 0);
        DUE.refused(words, "20: simple(6, 0)", () -> words.simple(6, 0), Due.UNKNOWN);
        DUE.refused(words, "20: simple(6, 8)", () -> words.simple(6, 8), Due.UNKNOWN);
        DUE.refused(words, "20: simple(0, 8)", () -> words.simple(0, 8), Due.OUTSIDE);
        for (int wild : Due.WILD) {
            DUE.refused(words, "20: simple(" + wild + ", 8)", () -> words.simple(wild, 8), Due.UNKNOWN);
            DUE.refused(words, "20: simple(0, " + wild + ")", () -> words.simple(0, wild), Due.OUTSIDE);
        }
        RiverWords dry = new RiverWords();
        DUE.due("20: without a river", dry.simple(0, 0), Due.UNKNOWN);
        DUE.due("20: without a river, what outside", dry.simple(0, 8), Due.UNKNOWN);
        RiverWords primitive = with(20);
        // (2, 2, -2) and (2, -2, -2) have the discriminant 20 too, but a common divisor.
        for (int form = 0; form < 8; form++) {
            DUE.due("20: no common divisor", primitive.simple(form, 0) == 2 && primitive.simple(form, 2) == -2 ? 1 : 0, 0);
        }
        DUE.due("20: the last form of the largest river", with(889).simple(319, 1), 29);
    }

    private static void cycle() {
        RiverWords words = with(12);
        long[] row = new long[10];
        for (int i = 0; i < row.length; i++) {
            row[i] = words.cycle(i / 5, i % 5);
        }
        DUE.row("21: river(12)", row, 0, 3, 1, 0, 1, 1, 3, 2, 1, 0);
        RiverWords many = with(229);
        DUE.due("21: a reversed cycle", many.cycle(1, 3), 2);
        DUE.due("21: an opposite cycle", many.cycle(1, 4), 1);
        DUE.refused(words, "21: cycle(2, 0)", () -> words.cycle(2, 0), Due.UNKNOWN);
        DUE.refused(words, "21: cycle(2, 5)", () -> words.cycle(2, 5), Due.UNKNOWN);
        DUE.refused(words, "21: cycle(0, 5)", () -> words.cycle(0, 5), Due.OUTSIDE);
        for (int wild : Due.WILD) {
            DUE.refused(words, "21: cycle(" + wild + ", 5)", () -> words.cycle(wild, 5), Due.UNKNOWN);
            DUE.refused(words, "21: cycle(0, " + wild + ")", () -> words.cycle(0, wild), Due.OUTSIDE);
        }
        RiverWords dry = new RiverWords();
        DUE.due("21: without a river", dry.cycle(0, 0), Due.UNKNOWN);
        DUE.due("21: without a river, what outside", dry.cycle(0, 5), Due.UNKNOWN);
        DUE.due("21: the last cycle of the river with the most", with(817).cycle(9, 1), modelOf(817).cycle(9, 1));
    }

    private static void step() {
        RiverWords words = with(12);
        String letters = "RRLRLL";
        for (int i = 0; i < letters.length(); i++) {
            DUE.due("22: step(" + i / 3 + ", " + i % 3 + ")", words.step(i / 3, i % 3), letters.charAt(i));
        }
        DUE.refused(words, "22: step(0, 3)", () -> words.step(0, 3), Due.UNKNOWN);
        DUE.refused(words, "22: step(2, 0)", () -> words.step(2, 0), Due.UNKNOWN);
        for (int wild : Due.WILD) {
            DUE.refused(words, "22: step(" + wild + ", 0)", () -> words.step(wild, 0), Due.UNKNOWN);
            DUE.refused(words, "22: step(0, " + wild + ")", () -> words.step(0, wild), Due.UNKNOWN);
        }
        DUE.due("22: without a river", new RiverWords().step(0, 0), Due.UNKNOWN);
        RiverWords far = with(769);
        Model model = modelOf(769);
        for (int place = 0; place <= 274; place++) {
            DUE.due("22: step(0, " + place + ") of 769", far.step(0, place), model.step(0, place));
        }
    }

    private static void trace() {
        RiverWords words = with(12);
        // RRL has the trace 4, RLL too.
        DUE.due("23: trace(0, 1000)", words.trace(0, 1000), 4);
        DUE.due("23: trace(1, 3)", words.trace(1, 3), 1);
        DUE.due("23: trace(0, 2)", words.trace(0, 2), 0);
        DUE.due("23: trace(0, 4)", words.trace(0, 4), 0);
        DUE.due("23: trace(0, 5)", words.trace(0, 5), 4);
        DUE.refused(words, "23: trace(0, 1)", () -> words.trace(0, 1), Due.OUTSIDE);
        DUE.refused(words, "23: trace(0, 0)", () -> words.trace(0, 0), Due.OUTSIDE);
        DUE.refused(words, "23: trace(0, 1001)", () -> words.trace(0, 1001), Due.OUTSIDE);
        DUE.refused(words, "23: trace(2, 2)", () -> words.trace(2, 2), Due.UNKNOWN);
        for (int wild : new int[] {Integer.MIN_VALUE, -1, Integer.MAX_VALUE}) {
            DUE.refused(words, "23: trace(" + wild + ", 1)", () -> words.trace(wild, 1), Due.UNKNOWN);
            DUE.refused(words, "23: trace(0, " + wild + ")", () -> words.trace(0, wild), Due.OUTSIDE);
        }
        DUE.due("23: without a river", new RiverWords().trace(0, 1), Due.UNKNOWN);
    }

    private static void flowPair(RiverWords words, int[] triple, int steps, int form) {
        String call = "24: flow(" + triple[0] + ", " + triple[1] + ", " + triple[2] + ", ";
        DUE.due(call + "true)", words.flow(triple[0], triple[1], triple[2], true), steps);
        DUE.due(call + "false)", words.flow(triple[0], triple[1], triple[2], false), form);
    }

    private static void flow() {
        RiverWords words = with(12);
        flowPair(words, new int[] {1, 0, -3}, 0, 2);
        // (-3, 0, 1) becomes (1, 0, -3), which is no step.
        flowPair(words, new int[] {-3, 0, 1}, 0, 2);
        flowPair(words, new int[] {-1, 2, 2}, 0, 1);
        // (1, 4, 1): t is -1, m is -2, |a| >= |c|: (-2, 2, 1), which becomes (1, -2, -2).
        flowPair(words, new int[] {1, 4, 1}, 1, 0);
        // (1, -4, 1): t is 1, m is -2: (-2, -2, 1), which becomes (1, 2, -2).
        flowPair(words, new int[] {1, -4, 1}, 1, 4);
        // (-1, 4, -1): t is 1, m is 2: (2, 2, -1).
        flowPair(words, new int[] {-1, 4, -1}, 1, 5);
        // (1, 6, 6): t is -1, m is 1, |a| < |c|: (1, 4, 1), and then as above.
        flowPair(words, new int[] {1, 6, 6}, 2, 0);
        flowPair(words, new int[] {6, 6, 1}, 2, 0);
        DUE.refused(words, "24: flow(1, 1, -3)", () -> words.flow(1, 1, -3, true), Due.OUTSIDE);
        DUE.refused(words, "24: flow(0, 0, 0)", () -> words.flow(0, 0, 0, true), Due.OUTSIDE);
        // Each of these has the discriminant 12, but a number out of range.
        DUE.refused(words, "24: b is 1000", () -> words.flow(1, 1000, 249997, true), Due.OUTSIDE);
        DUE.refused(words, "24: c is 1021", () -> words.flow(1, 64, 1021, true), Due.OUTSIDE);
        DUE.refused(words, "24: a is 1021", () -> words.flow(1021, 64, 1, false), Due.OUTSIDE);
        DUE.refused(words, "24: a is -1021", () -> words.flow(-1021, 64, -1, false), Due.OUTSIDE);
        for (int wild : new int[] {Integer.MIN_VALUE, -1000, 1000, Integer.MAX_VALUE, 65536, 1 << 30}) {
            DUE.refused(words, "24: a is " + wild, () -> words.flow(wild, 0, -3, true), Due.OUTSIDE);
            DUE.refused(words, "24: b is " + wild, () -> words.flow(1, wild, -3, true), Due.OUTSIDE);
            DUE.refused(words, "24: c is " + wild, () -> words.flow(1, 0, wild, true), Due.OUTSIDE);
        }
        RiverWords edge = with(96);
        // 64 * 64 - 4 * 1000 is 96, and 1000 * 1000 - 4 * 289 * 865 is 60: only one number is out of range, by 1.
        DUE.refused(edge, "24: a is 1000", () -> edge.flow(1000, 64, 1, true), Due.OUTSIDE);
        DUE.refused(edge, "24: c is 1000", () -> edge.flow(1, 64, 1000, true), Due.OUTSIDE);
        DUE.refused(edge, "24: a is -1000", () -> edge.flow(-1000, 64, -1, false), Due.OUTSIDE);
        DUE.refused(edge, "24: c is -1000", () -> edge.flow(-1, 64, -1000, false), Due.OUTSIDE);
        RiverWords middle = with(60);
        DUE.refused(middle, "24: b is 1000", () -> middle.flow(289, 1000, 865, true), Due.OUTSIDE);
        DUE.refused(middle, "24: b is -1000", () -> middle.flow(289, -1000, 865, true), Due.OUTSIDE);
        RiverWords divided = with(20);
        DUE.refused(divided, "24: a common divisor", () -> divided.flow(2, 2, -2, true), Due.OUTSIDE);
        DUE.refused(divided, "24: a common divisor", () -> divided.flow(2, 6, 2, false), Due.OUTSIDE);
        RiverWords dry = new RiverWords();
        DUE.refused(dry, "24: without a river", () -> dry.flow(1, 0, -3, true), Due.STATE);
        DUE.refused(dry, "24: without a river, out of range", () -> dry.flow(1000, 0, -3, true), Due.STATE);
        DUE.refused(dry, "24: without a river, zeros", () -> dry.flow(0, 0, 0, false), Due.STATE);
        DUE.due("24: without a river, then with one", dry.river(12), 6);
        edges();
    }

    /** Numbers at the edge of the range, found by their discriminant. */
    private static void edges() {
        for (int c = -999; c <= 999; c++) {
            for (int b = -999; b <= 999; b += 111) {
                edge(999, b, c);
                edge(c, b, -999);
            }
            edge(1, 999, c);
        }
    }

    private static void edge(int a, int b, int c) {
        int d = b * b - 4 * a * c;
        Model model = new Model();
        if (d >= 5 && d <= 900 && model.river(d) > 0) {
            RiverWords words = with(d);
            flowPair(words, new int[] {a, b, c}, model.flow(a, b, c, true), model.flow(a, b, c, false));
        }
    }

    /** Every triple of small numbers, and every one of some rivers. */
    private static void everyFlow() {
        for (int d : new int[] {5, 8, 12, 40, 45, 229, 316, 725, 892, 897}) {
            Model model = modelOf(d);
            for (int a = -40; a <= 40; a++) {
                RiverWords words = with(d);
                for (int b = -60; b <= 60; b++) {
                    int rest = b * b - d;
                    if (a != 0 && rest % (4 * a) == 0) {
                        int c = rest / (4 * a);
                        flowPair(words, new int[] {a, b, c}, model.flow(a, b, c, true), model.flow(a, b, c, false));
                        flowPair(words, new int[] {c, b, a}, model.flow(c, b, a, true), model.flow(c, b, a, false));
                    }
                }
            }
        }
    }

    private static void lay() {
        RiverWords words = with(12);
        DUE.due("25: lay(0)", words.lay(0), 0);
        DUE.letters("25: lay(0)", words, 0, "RRL");
        DUE.due("25: lay(1)", words.lay(1), 1);
        DUE.letters("25: lay(1)", words, 1, "RLL");
        DUE.due("25: a laid road is not read", words.count(4), 0);
        DUE.refused(words, "25: lay(2)", () -> words.lay(2), Due.UNKNOWN);
        for (int wild : Due.WILD) {
            DUE.refused(words, "25: lay(" + wild + ")", () -> words.lay(wild), Due.UNKNOWN);
        }
        for (int road = 2; road < 6; road++) {
            DUE.due("25: lay(0)", words.lay(0), road);
        }
        DUE.refused(words, "25: lay(0) with six roads", () -> words.lay(0), Due.FULL);
        DUE.refused(words, "25: lay(2) with six roads", () -> words.lay(2), Due.UNKNOWN);
        words.river(41);
        DUE.refused(words, "25: lay(0) of 22 letters with six roads", () -> words.lay(0), Due.STATE);
        words.drop();
        DUE.refused(words, "25: lay(0) of 22 letters", () -> words.lay(0), Due.STATE);
        DUE.refused(new RiverWords(), "25: without a river", () -> new RiverWords().lay(0), Due.UNKNOWN);
        everyLay();
    }

    /** Every cycle of every river, those with 20 letters and more among them. */
    private static void everyLay() {
        for (int d = 5; d <= 900; d++) {
            Model model = new Model();
            RiverWords words = with(d);
            if (model.river(d) < 0) {
                continue;
            }
            for (int cycle = 0; cycle < model.count(6); cycle++) {
                int want = model.lay(cycle);
                DUE.due("25: lay(" + cycle + ") of " + d, words.lay(cycle), want);
                if (want == 0) {
                    DUE.letters("25: lay(" + cycle + ") of " + d, words, 0, model.letters(0));
                    DUE.due("25: letters R of " + d, words.road(0, 2), model.road(0, 2));
                    DUE.due("26: where(0) of " + d, words.where(0), model.cycle(cycle, 0));
                    words.drop();
                    model.drop();
                }
            }
        }
    }

    private static void where() {
        RiverWords words = Due.with("RRL", "RLR", "LLL", "LR", "L9R9L2", "RRLRRL");
        DUE.refused(words, "26: where(0) without a river", () -> words.where(0), Due.STATE);
        DUE.refused(words, "26: where(2) without a river", () -> words.where(2), Due.STATE);
        DUE.refused(words, "26: where(6) without a river", () -> words.where(6), Due.UNKNOWN);
        words.river(12);
        DUE.due("26: where(0)", words.where(0), 0);
        DUE.due("26: where(1)", words.where(1), 2);
        DUE.refused(words, "26: where(2) of a road that is not closed", () -> words.where(2), Due.STATE);
        DUE.refused(words, "26: where(3) of another discriminant", () -> words.where(3), Due.NONE);
        DUE.refused(words, "26: where(4) of a great discriminant", () -> words.where(4), Due.NONE);
        DUE.due("26: where(5) of a power", words.where(5), 0);
        for (int wild : Due.WILD) {
            DUE.refused(words, "26: where(" + wild + ")", () -> words.where(wild), Due.UNKNOWN);
        }
        words.river(5);
        DUE.due("26: where(3) of the other river", words.where(3), 1);
        DUE.due("26: where(0) of the other river", words.where(0), Due.NONE);
    }
}
