import java.math.BigInteger;
import java.util.ArrayList;
import java.util.List;

/** The boundary cases of promises 27 to 29, in the document's order. */
final class EdgeTotalsTest {
    private static final Due DUE = new Due();
    private static final Edge EDGE = new Edge(DUE);

    public static void main(String[] args) {
        drawnRanges();
        largeSeeds();
        drawnInParts();
        drawnWords();
        openDrawnWords();
        countRange();
        emptyAndFullCounts();
        roadClasses();
        readings();
        tellingCallsChangeNothing();
        digestsOfEmptyAndFull();
        digestOrder();
        manyCalls();
        DUE.finish("EdgeTotalsTest");
    }

    /** "times: 1 to 40", "seed: 0 or greater", "what": 0 to 3, and OUTSIDE in any state. */
    private static void drawnRanges() {
        for (int what = 0; what <= 3; what++) {
            int told = what;
            EDGE.range("27: times", Edge.SOME, (words, times) -> words.drawn(times, 0, told), 1, 40, Due.OUTSIDE);
            for (int seed : new int[] {-1, Integer.MIN_VALUE, Integer.MIN_VALUE + 1}) {
                EDGE.refusedAlways("27: seed " + seed, words -> words.drawn(1, seed, told), Due.OUTSIDE);
            }
            for (int seed : new int[] {0, 1, Integer.MAX_VALUE}) {
                DUE.due("27: seed " + seed, Edge.isError(new RiverWords().drawn(40, seed, what)) ? 1 : 0, 0);
            }
        }
        EDGE.range("27: what", Edge.SOME, (words, what) -> words.drawn(1, 0, what), 0, 3, Due.OUTSIDE);
        EDGE.range("27: what of 40 words", Edge.SIX, (words, what) -> words.drawn(40, Integer.MAX_VALUE, what), 0, 3, Due.OUTSIDE);
        EDGE.refusedAlways("27: all out of range", words -> words.drawn(0, -1, 4), Due.OUTSIDE);
    }

    private static void drawnRow(int times, int seed, long... want) {
        RiverWords words = new RiverWords();
        long[] row = new long[4];
        for (int what = 0; what < 4; what++) {
            row[what] = words.drawn(times, seed, what);
        }
        DUE.row("27: drawn(" + times + ", " + seed + ")", row, want);
    }

    /** "s becomes (1103515245 * s + 12345) modulo 2^31 (without overflow)" */
    private static void largeSeeds() {
        drawnRow(1, 2147483647, 1, 30, 0, 2101342199);
        drawnRow(2, 2147483647, 2, 57, 20, 94299887);
        drawnRow(40, 2147483647, 40, 1040, 622, 1701565119);
        drawnRow(1, 2147483646, 1, 9, 0, 761401558);
        drawnRow(40, 2147483646, 40, 972, 580, 784319934);
        drawnRow(2, 2147471302, 2, 53, 14, 1816245878);
        drawnRow(40, 2147471302, 39, 982, 578, 1991032198);
        drawnRow(40, 1073741824, 40, 1044, 632, 1545068480);
        drawnRow(1, 65536, 1, 27, 0, 742313752);
        drawnRow(1, 65535, 1, 30, 0, 1549856759);
        drawnRow(1, 0, 1, 27, 0, 1293799192);
        drawnRow(40, 0, 40, 1044, 632, 471326656);
    }

    private static BigInteger next(BigInteger s) {
        return s.multiply(BigInteger.valueOf(1103515245)).add(BigInteger.valueOf(12345)).mod(BigInteger.ONE.shiftLeft(31));
    }

    /** The number s goes on from one word to the next: 40 words are the first and then 39 from its s. */
    private static void drawnInParts() {
        for (int seed : new int[] {0, 1, 2147483647, 2147483646, 1 << 30, 65535, 123456789}) {
            RiverWords words = new RiverWords();
            int s = seed;
            long closed = 0;
            long traces = 0;
            for (int times = 1; times <= 40; times++) {
                closed += words.drawn(1, s, 0);
                traces += words.drawn(1, s, 1);
                DUE.due("27: one word has no word before", words.drawn(1, s, 2), 0);
                s = words.drawn(1, s, 3);
                DUE.due("27: drawn(" + times + ", " + seed + ", 0)", words.drawn(times, seed, 0), closed);
                DUE.due("27: drawn(" + times + ", " + seed + ", 1)", words.drawn(times, seed, 1), traces);
                DUE.due("27: drawn(" + times + ", " + seed + ", 3)", words.drawn(times, seed, 3), s);
            }
        }
    }

    private static List<String> words(int times, int seed) {
        List<String> drawn = new ArrayList<>();
        BigInteger s = BigInteger.valueOf(seed);
        for (int word = 0; word < times; word++) {
            StringBuilder letters = new StringBuilder();
            for (int place = 0; place < 8; place++) {
                s = next(s);
                boolean right = s.divide(BigInteger.valueOf(65536)).mod(BigInteger.TWO).equals(BigInteger.ONE);
                letters.append(right ? 'R' : 'L');
            }
            drawn.add(letters.toString());
        }
        return drawn;
    }

    /** What is told of the words is what is told of roads with their letters. */
    private static void drawnWords() {
        for (int seed : new int[] {0, 2147483647, 2147483646, 120, 391, 365, 473, 1 << 30}) {
            List<String> drawn = words(40, seed);
            long[] sums = new long[3];
            for (int word = 0; word < drawn.size(); word++) {
                RiverWords roads = word == 0 ? Due.with(drawn.get(0)) : Due.with(drawn.get(word), drawn.get(word - 1));
                sums[0] += roads.road(0, 6);
                sums[1] += roads.road(0, 6) * roads.road(0, 5);
                int crossings = roads.cross(0, 1);
                sums[2] += crossings < 0 ? 0 : crossings;
                for (int what = 0; what < 3; what++) {
                    String call = "27: drawn(" + (word + 1) + ", " + seed + ", " + what + ")";
                    DUE.due(call, new RiverWords().drawn(word + 1, seed, what), sums[what]);
                }
            }
        }
    }

    /** "if both are closed": a first word that has one letter alone, and one in the middle. */
    private static void openDrawnWords() {
        drawnRow(1, 120, 0, 0, 0, 1025402512);
        drawnRow(1, 391, 0, 0, 0, 1224579711);
        DUE.due("27: the word from 120", words(1, 120).get(0).equals("LLLLLLLL") ? 1 : 0, 1);
        DUE.due("27: the word from 391", words(1, 391).get(0).equals("RRRRRRRR") ? 1 : 0, 1);
        DUE.due("27: one closed word of two", new RiverWords().drawn(2, 120, 0), 1);
        DUE.due("27: no crossings with an open word", new RiverWords().drawn(2, 120, 2), 0);
        int alone = 0;
        for (int seed = 0; seed < 4000; seed++) {
            int before = seed;
            RiverWords words = new RiverWords();
            int middle = words.drawn(1, before, 3);
            if (words.drawn(1, before, 0) == 1 && words.drawn(1, middle, 0) == 0) {
                alone++;
                DUE.due("27: an open word after a closed one", words.drawn(2, seed, 2), 0);
                DUE.due("27: and a closed one after it", words.drawn(3, seed, 2), 0);
            }
        }
        DUE.due("27: open words were met", alone > 0 ? 1 : 0, 1);
    }

    /** "OUTSIDE if what is not 0 to 6" */
    private static void countRange() {
        for (Edge.State state : Edge.STATES) {
            EDGE.range("28: count with " + state.name(), state.start(), RiverWords::count, 0, 6, Due.OUTSIDE);
        }
        for (int what : new int[] {-1, 7, Integer.MIN_VALUE, Integer.MAX_VALUE}) {
            EDGE.refusedAlways("28: count(" + what + ")", words -> words.count(what), Due.OUTSIDE);
        }
    }

    private static void countRow(String call, RiverWords words, long... want) {
        long[] row = new long[7];
        for (int what = 0; what < 7; what++) {
            row[what] = words.count(what);
        }
        DUE.row("28: " + call, row, want);
    }

    private static void emptyAndFullCounts() {
        countRow("a new object", new RiverWords(), 0, 0, 0, 0, 0, 0, 0);
        RiverWords full = Edge.laid(889, "LRLRLRLRLRLRLRLRLRLR", "LR", "LLR", "LRR", "LLLR", "LRRR", "LLRR");
        countRow("all full", full, 6, 6, 6, 20, 6, 320, 2);
        full.letter('L');
        full.word();
        full.river(900);
        full.cut(2, 1);
        countRow("all full after refused calls", full, 6, 6, 6, 20, 6, 320, 2);
        full.river(817);
        full.blank();
        for (int left = 5; left >= 0; left--) {
            full.drop();
            countRow(left + " roads left", full, left, left, left, 0, 6, 248, 10);
        }
        countRow("open roads alone", Due.with("L", "R", "L2", "R9R9R2", "L", "R"), 6, 0, 4, 0, 6, 0, 0);
    }

    /** "roads that are conjugate to no road with a lower number" */
    private static void roadClasses() {
        String twenty = "L9R9LR";
        RiverWords words = Due.with(twenty, twenty, twenty, twenty, twenty, twenty);
        for (int road = 0; road < 6; road++) {
            words.turn(road, 19 - road);
        }
        DUE.due("28: six rotations of one word", words.count(2), 1);
        words.change(0, 1);
        DUE.due("28: the first one changed", words.count(2), 2);
        words.change(5, 1);
        DUE.due("28: the last one changed", words.count(2), 2);
        words.change(3, 0);
        // L9R9LR reversed is L9RLR9 but for a rotation, and so is its complement.
        words.change(3, 0);
        DUE.due("28: one in the middle reversed", words.count(2), 2);
        words.change(0, 1);
        DUE.due("28: the first one changed back", words.count(2), 2);
        words.turn(0, 19);
        DUE.due("28: the first one turned", words.count(2), 2);
        DUE.due("28: of the same letters", Due.with("LR", "LRLR", "LRLRLR", "RL", "RLRL", "RLRLRL").count(2), 3);
        DUE.due("28: the only one", Due.with("L").count(2), 1);
    }

    /** "how often a road has been read by word()" */
    private static void readings() {
        RiverWords words = new RiverWords();
        for (int reading = 1; reading <= 100; reading++) {
            words.letter('L');
            DUE.due("28: word() number " + reading, words.word(), 0);
            DUE.due("28: count(4)", words.count(4), reading);
            words.drop();
        }
        DUE.due("28: an empty page", words.word(), Due.STATE);
        DUE.due("28: count(4) after it", words.count(4), 100);
        RiverWords full = Due.full("L");
        full.word();
        DUE.due("28: count(4) when there is no place", full.count(4), 6);
        full.drop();
        full.join(0, 1);
        full.drop();
        full.lay(0);
        full.cut(2, 1);
        full.drop();
        full.times(0, 2);
        DUE.due("28: count(4) after other roads", full.count(4), 6);
        full.drop();
        full.word();
        DUE.due("28: count(4) after the page is read", full.count(4), 7);
    }

    /** What is only told leaves the object as it was. */
    private static void tellingCallsChangeNothing() {
        Edge.Call[] telling = {RiverWords::fault, words -> words.road(0, 4), words -> words.road(1, 9), words -> words.sign(0, 0),
            words -> words.table(1, 3), words -> words.form(0, 4), words -> words.end(0, 1), words -> words.alike(0, 1),
            words -> words.cross(0, 1), words -> words.simple(1, 7), words -> words.cycle(0, 4), words -> words.step(0, 1),
            words -> words.trace(0, 1000), words -> words.flow(1, 0, -3, true), words -> words.flow(1, 0, -5, false),
            words -> words.where(0), words -> words.drawn(40, 1, 2), words -> words.count(2), RiverWords::digest};
        for (int call = 0; call < telling.length; call++) {
            for (Edge.State state : Edge.STATES) {
                long want = telling[call].answer(state.start().make());
                EDGE.told("29: telling call " + call + " with " + state.name(), state.start(), telling[call], want);
            }
        }
    }

    private static void add(Renewed object, List<Long> numbers, Edge.Call call) {
        numbers.add(object.ask(call));
    }

    private static void addRoads(Renewed object, List<Long> numbers, int roads) {
        for (int n = 0; n < roads; n++) {
            int road = n;
            for (int i = 0; i < 10; i++) {
                int what = i;
                add(object, numbers, words -> words.road(road, what));
            }
            for (int i = 0; i < object.ask(words -> words.road(road, 0)); i++) {
                int place = i;
                add(object, numbers, words -> words.sign(road, place));
            }
            for (int i = 0; i < 6; i++) {
                int what = i;
                add(object, numbers, words -> what < 4 ? words.table(road, what) : words.end(road, what - 4));
            }
            for (int i = 0; i < 5 && object.ask(words -> words.road(road, 6)) == 1; i++) {
                int what = i;
                add(object, numbers, words -> words.form(road, what));
            }
        }
        for (int i = 0; i < roads; i++) {
            for (int j = i; j < roads; j++) {
                int one = i;
                int other = j;
                if (object.ask(words -> words.cross(one, other)) != Due.STATE) {
                    add(object, numbers, words -> words.cross(one, other));
                }
            }
        }
    }

    private static void addRiver(Renewed object, List<Long> numbers) {
        for (int i = 0; i < object.ask(words -> words.count(5)); i++) {
            int form = i;
            for (int k = 0; k < 8; k++) {
                int what = k;
                add(object, numbers, words -> words.simple(form, what));
            }
        }
        for (int i = 0; i < object.ask(words -> words.count(6)); i++) {
            int cycle = i;
            for (int k = 0; k < 5; k++) {
                int what = k;
                add(object, numbers, words -> words.cycle(cycle, what));
            }
            add(object, numbers, words -> words.trace(cycle, 997));
        }
    }

    /** The hash with whole numbers of any size, brought into the range of a long at the very end. */
    private static void digest(String call, int river, String page, String... roads) {
        Edge.Start start = () -> Edge.laid(river, page, roads);
        Renewed object = new Renewed(start);
        List<Long> numbers = new ArrayList<>();
        addRoads(object, numbers, roads.length);
        addRiver(object, numbers);
        for (int i = 0; i < page.length(); i++) {
            numbers.add((long) page.charAt(i));
        }
        for (int i = 0; i < 7; i++) {
            int what = i;
            add(object, numbers, words -> words.count(what));
        }
        BigInteger h = BigInteger.valueOf(1549);
        for (long v : numbers) {
            h = h.multiply(BigInteger.valueOf(31)).add(BigInteger.valueOf(v));
        }
        EDGE.told("29: " + call, start, RiverWords::digest, h.longValue());
    }

    /** "h becomes 31 * h + v (long arithmetic that wraps)" */
    private static void digestsOfEmptyAndFull() {
        String twenty = "LRLRLRLRLRLRLRLRLRLR";
        digest("nothing", 0, "");
        digest("one character", 0, "~");
        digest("a page of 20 characters", 0, "~".repeat(20));
        digest("a page of 20 letters", 0, twenty);
        digest("an open road", 0, "", "L");
        digest("a closed road", 0, "", "LR");
        digest("open roads and closed ones", 0, "x", "L", "LR", "R3", "LLR", "R9R9R2", "L9R9LR");
        digest("six roads of 20 letters", 0, twenty, twenty, "L9R9LR", "R9L9RL", "L9L9LR", "R9R9RL", "L9L9L2");
        digest("the smallest river", 5, "");
        digest("the river with the most forms", 889, "");
        digest("the river with the most cycles", 817, "");
        digest("the longest cycle", 769, "");
        digest("the greatest discriminant", 897, "");
        digest("all full", 889, "x".repeat(20), twenty, "L9R9LR", "R9L9RL", "L9L9LR", "R9R9RL", "LR");
        digest("a bit of all", 12, "L2 ", "RL2", "L", "LLR");
        DUE.due("29: a new object", new RiverWords().digest(), 1549L * 27512614111L);
    }

    /** Each number has its own place in the hash. */
    private static void digestOrder() {
        DUE.due("29: roads in another order", Due.with("LR", "RL").digest() == Due.with("RL", "LR").digest() ? 1 : 0, 0);
        DUE.due("29: a page in another order", Edge.laid(0, "LR").digest() == Edge.laid(0, "RL").digest() ? 1 : 0, 0);
        DUE.due("29: a page or a road", Edge.laid(0, "LR").digest() == Due.with("LR").digest() ? 1 : 0, 0);
        EDGE.same("29: what came before does not matter", () -> {
            RiverWords words = Edge.laid(889, "L9R9LR", "LR");
            words.blank();
            words.join(0, 0);
            words.drop();
            words.turn(0, 1);
            words.river(8);
            return words;
        }, () -> Edge.laid(8, "", "RL"));
    }

    /** "An object is used for at most 512 calls": the last of them are answered like the first. */
    private static void manyCalls() {
        RiverWords words = Edge.SIX.make();
        long first = words.digest();
        for (int call = 0; call < 440; call++) {
            DUE.due("29: digest() number " + call, words.digest(), first);
        }
        RiverWords changing = Due.with("L9R9LR");
        for (int call = 0; call < 250; call++) {
            DUE.due("17: cut(2, 1) again", changing.cut(2, 1), 1);
            DUE.due("18: drop() again", changing.drop(), 1);
        }
        RiverWords rivers = Due.with("LR");
        for (int call = 0; call < 250; call++) {
            DUE.due("19: river(889) again", rivers.river(889), 320);
            DUE.due("19: river(5) again", rivers.river(5), 2);
        }
        DUE.due("26: where(0) of the last river", rivers.where(0), 1);
    }
}
