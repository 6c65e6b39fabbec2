import java.util.HashSet;
import java.util.Set;

/** The boundary cases of promises 19 to 26, and of "Rivers", in the document's order. */
final class EdgeRiverTest {
    private static final Due DUE = new Due();
    private static final Edge EDGE = new Edge(DUE);

    public static void main(String[] args) {
        discriminants();
        refusedDiscriminants();
        replacedRivers();
        formNumbers();
        everyForm();
        commonDivisors();
        nextForms();
        cycleNumbers();
        everyCycle();
        letterIndexes();
        moduli();
        flowRanges();
        flowErrors();
        flowSteps();
        flowSigns();
        flowDivisors();
        everyFlowOfForms();
        laidLengths();
        layErrors();
        whereAnswers();
        whereErrors();
        DUE.finish("EdgeRiverTest");
    }

    private static Edge.Start at(int d) {
        return () -> Edge.laid(d, "");
    }

    /** "a discriminant d from 5 to 900 that is not a square, and with d modulo 4 equal to 0 or 1" */
    private static boolean hasRiver(int d) {
        Set<Integer> squares = new HashSet<>();
        for (int root = 0; root <= 31; root++) {
            squares.add(root * root);
        }
        return d >= 5 && d <= 900 && !squares.contains(d) && Math.floorMod(d, 4) < 2;
    }

    private static void discriminants() {
        int rivers = 0;
        for (int d = -40; d <= 1000; d++) {
            boolean accepted = !Edge.isError(new RiverWords().river(d));
            DUE.due("19: river(" + d + ") is accepted", accepted ? 1 : 0, hasRiver(d) ? 1 : 0);
            rivers += accepted ? 1 : 0;
        }
        // Of 5 to 900, 448 are 0 or 1 modulo 4, and 28 of them, from 9 to 900, are squares.
        DUE.due("19: the number of discriminants", rivers, 448 - 28);
        int[][] sizes = {{5, 2}, {8, 4}, {12, 6}, {13, 6}, {20, 8}, {45, 12}, {845, 76}, {896, 116}, {897, 228}, {889, 320}, {817, 248}};
        for (int[] row : sizes) {
            DUE.due("19: river(" + row[0] + ")", new RiverWords().river(row[0]), row[1]);
        }
    }

    private static void refusedDiscriminants() {
        // Too small, of the wrong remainder, squares, too great, and such that wrap around to a good one.
        int[] wrong = {4, 3, 1, 0, -3, -4, -7, -8, -12, 6, 7, 10, 11, 898, 899, 9, 16, 25, 36, 49, 784, 841, 900, 901, 904, 905, 1000,
            12 + 65536, 5 - 65536, Integer.MIN_VALUE, Integer.MIN_VALUE + 5, Integer.MAX_VALUE, Integer.MAX_VALUE - 2};
        for (int d : wrong) {
            EDGE.refusedAlways("19: river(" + d + ")", words -> words.river(d), Due.OUTSIDE);
        }
    }

    /** "Replaces the river by that of a discriminant": nothing of the old one is left, and all else stays. */
    private static void replacedRivers() {
        int[][] pairs = {{889, 5}, {5, 889}, {817, 5}, {897, 896}, {12, 12}, {5, 897}, {897, 5}, {769, 8}};
        for (int[] pair : pairs) {
            EDGE.same("19: river(" + pair[1] + ") after river(" + pair[0] + ")", () -> {
                RiverWords words = Edge.laid(pair[0], "L2", "RL", "L3");
                words.river(pair[1]);
                return words;
            }, () -> Edge.laid(pair[1], "L2", "RL", "L3"));
        }
        RiverWords words = Edge.laid(889, "");
        DUE.due("19: river(5) after 889", words.river(5), 2);
        DUE.due("20: form 1", words.simple(1, 0), 1);
        DUE.due("20: form 2 of the old river", words.simple(2, 0), Due.UNKNOWN);
        DUE.due("20: form 319 of the old river", words.simple(319, 0), Due.UNKNOWN);
        DUE.due("21: cycle 1 of the old river", words.cycle(1, 0), Due.UNKNOWN);
        DUE.due("22: letter 2 of the old river", words.step(0, 2), Due.UNKNOWN);
        DUE.due("24: a triple of the old river", words.flow(1, 1, -222, true), Due.OUTSIDE);
        DUE.due("24: a triple of the new river", words.flow(1, 1, -1, true), 0);
        DUE.due("28: count(5)", words.count(5), 2);
        DUE.due("28: count(6)", words.count(6), 1);
    }

    /** "UNKNOWN: there is no such form", "OUTSIDE if what is not 0 to 7" */
    private static void formNumbers() {
        for (int[] row : new int[][] {{5, 2}, {12, 6}, {897, 228}, {889, 320}}) {
            int last = row[1] - 1;
            EDGE.range("20: form of " + row[0], at(row[0]), (words, form) -> words.simple(form, 0), 0, last, Due.UNKNOWN);
            EDGE.range("20: what of " + row[0], at(row[0]), (words, what) -> words.simple(0, what), 0, 7, Due.OUTSIDE);
            EDGE.range("20: what of the last", at(row[0]), (words, what) -> words.simple(last, what), 0, 7, Due.OUTSIDE);
        }
        for (int form : new int[] {-1, 320, Integer.MIN_VALUE, Integer.MAX_VALUE}) {
            for (int what : new int[] {-1, 0, 7, 8, Integer.MIN_VALUE, Integer.MAX_VALUE}) {
                EDGE.refusedAlways("20: simple(" + form + ", " + what + ")", words -> words.simple(form, what), Due.UNKNOWN);
            }
        }
        for (int what = -1; what <= 8; what++) {
            int told = what;
            EDGE.refused("20: without a river", () -> Due.with("LR"), words -> words.simple(0, told), Due.UNKNOWN);
        }
    }

    /** What simple() tells of all forms of a river, in rows of 8. */
    private static int[][] forms(int d) {
        int[][] rows = new int[new RiverWords().river(d)][8];
        Renewed river = new Renewed(at(d));
        for (int form = 0; form < rows.length; form++) {
            for (int what = 0; what < 8; what++) {
                int number = form;
                int told = what;
                rows[form][what] = (int) river.ask(words -> words.simple(number, told));
            }
        }
        return rows;
    }

    private static int divisor(int one, int other) {
        return other == 0 ? Math.abs(one) : divisor(other, one % other);
    }

    /** How many triples there are, found by their a and c. */
    private static int countedForms(int d) {
        int found = 0;
        for (int a = 1; 4 * a <= d; a++) {
            for (int c = -1; -4 * a * c <= d; c--) {
                int square = d + 4 * a * c;
                int b = (int) Math.round(Math.sqrt(square));
                if (b * b == square && divisor(divisor(a, b), c) == 1) {
                    found += b == 0 ? 1 : 2;
                }
            }
        }
        return found;
    }

    /** Each sentence on simple forms, for all forms of all rivers. */
    private static void everyForm() {
        for (int d = 5; d <= 900; d++) {
            if (!hasRiver(d)) {
                continue;
            }
            int[][] forms = forms(d);
            DUE.due("20: how many forms of " + d, forms.length, countedForms(d));
            for (int form = 0; form < forms.length; form++) {
                form(d, forms, form);
            }
        }
    }

    private static void form(int d, int[][] forms, int form) {
        int a = forms[form][0];
        int b = forms[form][1];
        int c = forms[form][2];
        String call = "20: form " + form + " of " + d + ": ";
        DUE.due(call + "a > 0 and c < 0", a > 0 && c < 0 ? 1 : 0, 1);
        DUE.due(call + "the discriminant", b * b - 4 * a * c, d);
        DUE.due(call + "the common divisor", divisor(divisor(a, b), c), 1);
        if (form > 0) {
            int[] before = forms[form - 1];
            DUE.due(call + "the order", before[1] < b || before[1] == b && before[0] < a ? 1 : 0, 1);
        }
        int sum = a + b + c;
        DUE.due(call + "the letter", forms[form][5], sum > 0 ? 'L' : 'R');
        int[] next = forms[forms[form][4]];
        DUE.due(call + "the next a", next[0], sum > 0 ? sum : a);
        DUE.due(call + "the next b", next[1], b + (sum > 0 ? 2 * c : 2 * a));
        DUE.due(call + "the next c", next[2], sum > 0 ? c : sum);
        DUE.due(call + "the next form's cycle", next[3], forms[form][3]);
        DUE.row(call + "the reversed form", triple(forms[forms[form][6]]), a, -b, c);
        DUE.row(call + "the opposite form", triple(forms[forms[form][7]]), -c, -b, -a);
    }

    private static long[] triple(int[] form) {
        return new long[] {form[0], form[1], form[2]};
    }

    /** "without a common divisor greater than 1 of all three" */
    private static void commonDivisors() {
        int[][] divided = {{20, 2, 2, -2}, {45, 3, 3, -3}, {125, 5, 5, -5}, {245, 7, 7, -7}, {605, 11, 11, -11}, {845, 13, 13, -13},
            {80, 4, 4, -4}, {320, 8, 8, -8}, {180, 6, 6, -6}, {500, 10, 10, -10}};
        for (int[] row : divided) {
            for (int[] form : forms(row[0])) {
                boolean same = form[0] == row[1] && Math.abs(form[1]) == row[2] && form[2] == row[3];
                DUE.due("20: a divided form of " + row[0], same ? 1 : 0, 0);
            }
        }
        // (2, 0, -3) and (2, 2, -5): two of the numbers have a common divisor, not all three.
        DUE.due("24: (2, 0, -3)", Edge.isError(at(24).make().flow(2, 0, -3, false)) ? 1 : 0, 0);
        DUE.due("24: (2, 2, -5)", Edge.isError(at(44).make().flow(2, 2, -5, false)) ? 1 : 0, 0);
    }

    private static void formRow(int d, int form, long... want) {
        RiverWords words = at(d).make();
        long[] row = new long[8];
        for (int what = 0; what < 8; what++) {
            row[what] = words.simple(form, what);
        }
        DUE.row("20: form " + form + " of " + d, row, want);
    }

    /** "if a + b + c > 0": a sum of 1, and one of -1; it is never 0. */
    private static void nextForms() {
        formRow(5, 0, 1, -1, -1, 0, 1, 'R', 1, 1);
        formRow(5, 1, 1, 1, -1, 0, 0, 'L', 0, 0);
        // (1, -2, -1), (1, 0, -2), (2, 0, -1), (1, 2, -1) have the sums -2, -1, 1, 2.
        formRow(8, 0, 1, -2, -1, 0, 1, 'R', 3, 3);
        formRow(8, 1, 1, 0, -2, 0, 3, 'R', 1, 2);
        formRow(8, 2, 2, 0, -1, 0, 0, 'L', 2, 1);
        formRow(8, 3, 1, 2, -1, 0, 2, 'L', 0, 0);
        formRow(889, 319, 12, 29, -1, 1, 313, 'L', 5, 0);
    }

    /** "UNKNOWN: there is no such cycle", "OUTSIDE if what is not 0 to 4" */
    private static void cycleNumbers() {
        for (int[] row : new int[][] {{5, 1}, {12, 2}, {897, 8}, {817, 10}, {889, 2}, {769, 1}}) {
            int last = row[1] - 1;
            EDGE.range("21: cycle of " + row[0], at(row[0]), (words, cycle) -> words.cycle(cycle, 0), 0, last, Due.UNKNOWN);
            EDGE.range("22: cycle of " + row[0], at(row[0]), (words, cycle) -> words.step(cycle, 0), 0, last, Due.UNKNOWN);
            EDGE.range("23: cycle of " + row[0], at(row[0]), (words, cycle) -> words.trace(cycle, 2), 0, last, Due.UNKNOWN);
            EDGE.range("21: what of " + row[0], at(row[0]), (words, what) -> words.cycle(last, what), 0, 4, Due.OUTSIDE);
            DUE.due("28: the cycles of " + row[0], at(row[0]).make().count(6), row[1]);
        }
        for (int cycle : new int[] {-1, 10, Integer.MIN_VALUE, Integer.MAX_VALUE}) {
            for (int number : new int[] {-1, 0, 1, 2, 4, 5, 1000, 1001, Integer.MIN_VALUE, Integer.MAX_VALUE}) {
                EDGE.refusedAlways("21: cycle(" + cycle + ", " + number + ")", words -> words.cycle(cycle, number), Due.UNKNOWN);
                EDGE.refusedAlways("22: step(" + cycle + ", " + number + ")", words -> words.step(cycle, number), Due.UNKNOWN);
                EDGE.refusedAlways("23: trace(" + cycle + ", " + number + ")", words -> words.trace(cycle, number), Due.UNKNOWN);
            }
            EDGE.refusedAlways("25: lay(" + cycle + ")", words -> words.lay(cycle), Due.UNKNOWN);
        }
    }

    /** Each sentence on cycles, for all cycles of all rivers. */
    private static void everyCycle() {
        for (int d = 5; d <= 900; d++) {
            if (hasRiver(d)) {
                cycles(d, forms(d));
            }
        }
    }

    private static void cycles(int d, int[][] forms) {
        Renewed river = new Renewed(at(d));
        int cycles = (int) river.ask(words -> words.count(6));
        int passed = 0;
        int before = -1;
        for (int n = 0; n < cycles; n++) {
            int cycle = n;
            String call = "21: cycle " + n + " of " + d + ": ";
            int lowest = (int) river.ask(words -> words.cycle(cycle, 0));
            DUE.due(call + "the order", lowest > before ? 1 : 0, 1);
            before = lowest;
            StringBuilder letters = new StringBuilder();
            int form = lowest;
            do {
                DUE.due(call + "the cycle of form " + form, forms[form][3], n);
                DUE.due(call + "the lowest form", form >= lowest ? 1 : 0, 1);
                letters.append((char) forms[form][5]);
                form = forms[form][4];
            } while (form != lowest);
            passed += letters.length();
            word(d, river, cycle, letters.toString());
            DUE.due(call + "what 3", river.ask(words -> words.cycle(cycle, 3)), forms[forms[lowest][6]][3]);
            DUE.due(call + "what 4", river.ask(words -> words.cycle(cycle, 4)), forms[forms[lowest][7]][3]);
        }
        DUE.due("21: all forms of " + d + " are in cycles", passed, forms.length);
    }

    private static void word(int d, Renewed river, int cycle, String word) {
        String call = "21, 22: the word of cycle " + cycle + " of " + d;
        DUE.due(call, river.ask(words -> words.cycle(cycle, 1)), word.length());
        DUE.due(call + ": letters L", river.ask(words -> words.cycle(cycle, 2)), word.replace("R", "").length());
        for (int i = 0; i < word.length(); i++) {
            int place = i;
            DUE.due(call + ": letter " + i, river.ask(words -> words.step(cycle, place)), word.charAt(i));
        }
        for (int place : new int[] {-1, word.length()}) {
            DUE.due(call + ": letter " + place, river.ask(words -> words.step(cycle, place)), Due.UNKNOWN);
        }
        java.math.BigInteger trace = trace(word);
        for (int m : new int[] {2, 3, 997, 1000}) {
            long rest = trace.mod(java.math.BigInteger.valueOf(m)).longValue();
            DUE.due("23: trace modulo " + m + " of cycle " + cycle + " of " + d, river.ask(words -> words.trace(cycle, m)), rest);
        }
        int added = word.length() > 20 ? Due.STATE : 0;
        RiverWords laid = at(d).make();
        DUE.due("25: lay(" + cycle + ") of " + d, laid.lay(cycle), added);
        if (added == 0) {
            DUE.letters("25: lay(" + cycle + ") of " + d, laid, 0, word);
        }
    }

    private static java.math.BigInteger trace(String word) {
        java.math.BigInteger[] at = {java.math.BigInteger.ONE, java.math.BigInteger.ZERO, java.math.BigInteger.ZERO, java.math.BigInteger.ONE};
        for (int i = 0; i < word.length(); i++) {
            int to = word.charAt(i) == 'L' ? 0 : 1;
            at[to] = at[0].add(at[1]);
            at[to + 2] = at[2].add(at[3]);
        }
        return at[0].add(at[3]);
    }

    /** "UNKNOWN if there is no such cycle or index" */
    private static void letterIndexes() {
        for (int[] row : new int[][] {{5, 0, 2}, {12, 0, 3}, {12, 1, 3}, {52, 0, 20}, {41, 0, 22}, {889, 1, 160}, {769, 0, 274}, {817, 9, 18}}) {
            EDGE.range("22: letters of " + row[0], at(row[0]), (words, place) -> words.step(row[1], place), 0, row[2] - 1, Due.UNKNOWN);
        }
    }

    /** "m: 2 to 1000", "Returns the remainder, 0 to m - 1" */
    private static void moduli() {
        for (int d : new int[] {5, 12, 897, 769}) {
            EDGE.range("23: m of " + d, at(d), (words, m) -> words.trace(0, m), 2, 1000, Due.OUTSIDE);
        }
        RiverWords words = at(5).make();
        // RL has the trace 3.
        DUE.row("23: the trace of river 5", new long[] {words.trace(0, 2), words.trace(0, 3), words.trace(0, 4), words.trace(0, 1000)},
            1, 0, 3, 3);
        RiverWords far = at(769).make();
        DUE.row("23: the trace of 274 letters", new long[] {far.trace(0, 2), far.trace(0, 3), far.trace(0, 997), far.trace(0, 999),
            far.trace(0, 1000)}, 0, 2, 875, 524, 402);
        for (int m : new int[] {1, 0, -1, 1001}) {
            EDGE.refused("23: trace(0, " + m + ") without a river", RiverWords::new, dry -> dry.trace(0, m), Due.UNKNOWN);
            EDGE.refused("23: trace(1, " + m + ")", at(5), wet -> wet.trace(1, m), Due.UNKNOWN);
        }
    }

    private static void flow(int d, int a, int b, int c, int steps, int form) {
        String call = "24: flow(" + a + ", " + b + ", " + c + ", ";
        EDGE.told(call + "true) of " + d, at(d), words -> words.flow(a, b, c, true), steps);
        EDGE.told(call + "false) of " + d, at(d), words -> words.flow(a, b, c, false), form);
    }

    private static void noFlow(int d, int a, int b, int c) {
        String call = "24: flow(" + a + ", " + b + ", " + c + ") of " + d;
        EDGE.refused(call, at(d), words -> words.flow(a, b, c, true), Due.OUTSIDE);
        EDGE.refused(call, at(d), words -> words.flow(a, b, c, false), Due.OUTSIDE);
    }

    /** "a: -999 to 999" and so on, with triples that have the discriminant of the river. */
    private static void flowRanges() {
        flow(157, 999, -965, 233, 13, 0);
        flow(157, 233, -965, 999, 13, 35);
        flow(157, -999, -965, -233, 13, 37);
        flow(157, -233, -965, -999, 13, 2);
        flow(297, 999, -963, 232, 11, 0);
        flow(57, 258, 999, 967, 14, 30);
        flow(57, 258, -999, 967, 14, 0);
        flow(57, -258, 999, -967, 14, 1);
        flow(57, -258, -999, -967, 14, 31);
        noFlow(209, 1000, -953, 227);
        noFlow(209, 227, -953, 1000);
        noFlow(209, -1000, -953, -227);
        noFlow(209, -227, 953, -1000);
        noFlow(96, 1000, 64, 1);
        noFlow(96, 1, 64, 1000);
        noFlow(60, 289, 1000, 865);
        noFlow(60, 289, -1000, 865);
        noFlow(60, -289, -1000, -865);
        // b * b and 4 * a * c wrap around to the discriminant.
        noFlow(12, 1, 65536, -3);
        noFlow(12, 1, Integer.MIN_VALUE, -3);
        noFlow(12, 1 << 30, 65536, 0);
        noFlow(12, 1 + (1 << 30), 0, -3);
        noFlow(12, 1, 0, -3 + (1 << 30));
        noFlow(12, 1, 0, Integer.MAX_VALUE);
        noFlow(12, Integer.MIN_VALUE, Integer.MIN_VALUE, Integer.MIN_VALUE);
    }

    /** STATE, then OUTSIDE. */
    private static void flowErrors() {
        int[][] triples = {{1, 0, -3}, {1000, 0, 0}, {0, 0, 0}, {2, 2, -2}, {Integer.MIN_VALUE, 0, 1}, {999, 999, 999}};
        for (int[] t : triples) {
            for (boolean told : new boolean[] {true, false}) {
                EDGE.refused("24: without a river", RiverWords::new, words -> words.flow(t[0], t[1], t[2], told), Due.STATE);
                EDGE.refused("24: with roads and no river", () -> Due.full("LR"), words -> words.flow(t[0], t[1], t[2], told), Due.STATE);
            }
        }
        // Discriminants beside that of the river, negative ones, squares, and 0.
        int[][] others = {{1, 1, -3}, {1, 1, -2}, {1, 0, -2}, {1, 0, -4}, {1, 0, 3}, {0, 0, 0}, {0, 3, 5}, {5, 4, 0}, {0, 0, -3}, {1, 4, 4},
            {999, 999, 999}, {-999, -999, -999}, {999, 999, -999}};
        for (int[] t : others) {
            noFlow(12, t[0], t[1], t[2]);
        }
    }

    /** "while a and c are both positive or both negative", "If |a| >= |c|" */
    private static void flowSteps() {
        flow(12, 1, 0, -3, 0, 2);
        // |a| = |c|: a is replaced, not c.
        flow(12, 1, 4, 1, 1, 0);
        flow(12, 1, -4, 1, 1, 4);
        flow(12, -1, 4, -1, 1, 5);
        flow(12, -1, -4, -1, 1, 1);
        // |a| = |c| - 1 and |c| + 1, for 8: (1, 4, 2) and (2, 4, 1).
        flow(8, 1, 4, 2, 1, 3);
        flow(8, 2, 4, 1, 1, 0);
        // Each step makes n smaller by 1, down to (1, 3, 1), which becomes (-1, 1, 1).
        for (int n = 1; n <= 31; n++) {
            int middle = 2 * n + 1;
            int large = n * n + n - 1;
            flow(5, 1, middle, large, n, 0);
            flow(5, large, middle, 1, n, 0);
            flow(5, 1, -middle, large, n, 1);
            flow(5, large, -middle, 1, n, 1);
        }
    }

    /** "where a is negative at the end, (a, b, c) becomes (c, -b, a); this is no step" */
    private static void flowSigns() {
        flow(12, -3, 0, 1, 0, 2);
        flow(12, -1, 0, 3, 0, 3);
        flow(12, -2, 2, 1, 0, 0);
        flow(12, -2, -2, 1, 0, 4);
        flow(12, -1, 2, 2, 0, 1);
        flow(5, -1, 1, 1, 0, 0);
        flow(5, -1, -1, 1, 0, 1);
        flow(5, 1, -1, -1, 0, 0);
    }

    /** "there is a common divisor greater than 1 of all three", and not only of two. */
    private static void flowDivisors() {
        noFlow(20, 2, 2, -2);
        noFlow(20, 2, -2, -2);
        noFlow(20, -2, 2, 2);
        noFlow(20, 2, 6, 2);
        noFlow(20, -2, -6, -2);
        noFlow(45, 3, 3, -3);
        noFlow(45, -3, 9, -3);
        noFlow(32, 2, 0, -4);
        noFlow(32, -4, 0, 2);
        noFlow(845, 13, 13, -13);
        noFlow(845, 13, -39, 13);
        flow(24, 2, 0, -3, 0, 5);
        flow(44, 2, 2, -5, 0, 11);
        flow(12, -1, 4, -1, 1, 5);
    }

    /** A simple form needs no step, and the form with its ends changed is the same after none. */
    private static void everyFlowOfForms() {
        for (int d = 5; d <= 900; d++) {
            if (!hasRiver(d)) {
                continue;
            }
            int[][] forms = forms(d);
            Renewed river = new Renewed(at(d));
            for (int form = 0; form < forms.length; form++) {
                int[] f = forms[form];
                DUE.due("24: the steps of form " + form + " of " + d, river.ask(words -> words.flow(f[0], f[1], f[2], true)), 0);
                DUE.due("24: form " + form + " of " + d, river.ask(words -> words.flow(f[0], f[1], f[2], false)), form);
                DUE.due("24: the steps of the turned form", river.ask(words -> words.flow(f[2], -f[1], f[0], true)), 0);
                DUE.due("24: the turned form " + form + " of " + d, river.ask(words -> words.flow(f[2], -f[1], f[0], false)), form);
            }
        }
    }

    /** "STATE if the word has more than 20 letters" */
    private static void laidLengths() {
        RiverWords twenty = at(52).make();
        DUE.due("25: lay(0) of 20 letters", twenty.lay(0), 0);
        DUE.letters("25: lay(0) of 52", twenty, 0, "RRRRRRLRLRLLLLLLRLRL");
        DUE.due("26: where(0) of it", twenty.where(0), 0);
        RiverWords nineteen = at(188).make();
        DUE.due("25: lay(1) of 19 letters", nineteen.lay(1), 0);
        DUE.due("25: its length", nineteen.road(0, 0), 19);
        EDGE.refused("25: lay(0) of 21 letters", at(204), words -> words.lay(0), Due.STATE);
        EDGE.refused("25: lay(1) of 21 letters", at(204), words -> words.lay(1), Due.STATE);
        EDGE.refused("25: lay(0) of 22 letters", at(41), words -> words.lay(0), Due.STATE);
        EDGE.refused("25: lay(0) of 274 letters", at(769), words -> words.lay(0), Due.STATE);
        DUE.due("25: lay(2) of 11 letters beside 21", at(204).make().lay(2), 0);
        EDGE.same("25: a laid road is like one that is read, and is not counted as read", () -> {
            RiverWords words = Edge.laid(5, "", "R");
            words.drop();
            words.lay(0);
            return words;
        }, () -> Edge.laid(5, "", "RL"));
    }

    /** UNKNOWN, then STATE, then FULL. */
    private static void layErrors() {
        Edge.Start full20 = () -> Edge.laid(52, "", "L", "L", "L", "L", "L", "L");
        Edge.Start full21 = () -> Edge.laid(204, "", "L", "L", "L", "L", "L", "L");
        EDGE.refused("25: 20 letters with six roads", full20, words -> words.lay(0), Due.FULL);
        EDGE.refused("25: 21 letters with six roads", full21, words -> words.lay(0), Due.STATE);
        EDGE.refused("25: 11 letters with six roads", full21, words -> words.lay(2), Due.FULL);
        EDGE.refused("25: cycle 4 with six roads", full21, words -> words.lay(4), Due.UNKNOWN);
        EDGE.refused("25: cycle -1 with six roads", full21, words -> words.lay(-1), Due.UNKNOWN);
        EDGE.refused("25: six roads and no river", () -> Due.full("LR"), words -> words.lay(0), Due.UNKNOWN);
        EDGE.range("25: cycles of 5", at(5), RiverWords::lay, 0, 0, Due.UNKNOWN);
        EDGE.range("25: cycles of 12", at(12), RiverWords::lay, 0, 1, Due.UNKNOWN);
        RiverWords words = Edge.laid(52, "", "L", "L", "L", "L", "L");
        DUE.due("25: the sixth road", words.lay(0), 5);
    }

    private static void where(int d, String word, int want) {
        EDGE.told("26: where(0) of " + word + " in " + d, () -> Edge.laid(d, "", word), words -> words.where(0), want);
    }

    /** "NONE if the form of the road is no simple form of the river" */
    private static void whereAnswers() {
        where(5, "LR", 1);
        where(5, "RL", 0);
        where(5, "LRLRLRLRLRLRLRLRLRLR", 1);
        where(8, "LR", Due.NONE);
        where(8, "LRRL", 2);
        where(8, "RLLR", 1);
        where(8, "LLRR", 3);
        where(8, "RRLL", 0);
        where(12, "LRRL", Due.NONE);
        // L^19 R is (19, 19, -1), and 437 is its discriminant.
        where(437, "L9L9LR", 39);
        where(436, "L9L9LR", Due.NONE);
        // (10, 100, -10) has the discriminant 10400, and 104 when it is divided by 10.
        where(104, "L9LR9R", 31);
        where(897, "LR", Due.NONE);
        // (91, 163, -19) has the discriminant 33485, which no river has.
        where(5, "L9R9LR", Due.NONE);
        for (int road = 0; road < 2; road++) {
            int at = road;
            EDGE.told("26: NONE is no error", () -> Edge.laid(12, "", "LR", "RL"), words -> words.where(at), Due.NONE);
        }
    }

    /** UNKNOWN, then "STATE if the road is not closed, or there is no river". */
    private static void whereErrors() {
        Edge.Start dry = () -> Due.with("LR", "L", "R9R9R2");
        Edge.Start wet = () -> Edge.laid(5, "", "LR", "L", "R9R9R2");
        for (int road = 0; road < 3; road++) {
            int at = road;
            EDGE.refused("26: where(" + road + ") without a river", dry, words -> words.where(at), Due.STATE);
        }
        EDGE.refused("26: where(1) of an open road", wet, words -> words.where(1), Due.STATE);
        EDGE.refused("26: where(2) of an open road", wet, words -> words.where(2), Due.STATE);
        for (int road : new int[] {-1, 3, Integer.MIN_VALUE, Integer.MAX_VALUE}) {
            EDGE.refused("26: where(" + road + ") without a river", dry, words -> words.where(road), Due.UNKNOWN);
            EDGE.refused("26: where(" + road + ")", wet, words -> words.where(road), Due.UNKNOWN);
        }
        EDGE.told("26: where(5) of six", () -> Edge.laid(5, "", "L", "L", "L", "L", "L", "LR"), words -> words.where(5), 1);
        EDGE.refused("26: where(6) of six", Edge.SIX, words -> words.where(6), Due.UNKNOWN);
    }
}
