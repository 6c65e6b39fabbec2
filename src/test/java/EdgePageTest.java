/** The boundary cases of promises 1 to 5, and of what "Words" says of the page, in the document's order. */
final class EdgePageTest {
    private static final Due DUE = new Due();
    private static final Edge EDGE = new Edge(DUE);
    private static final String TWENTY = "LRLRLRLRLRLRLRLRLRLR";

    public static void main(String[] args) {
        emptyObject();
        codes();
        twentyCharacters();
        blanks();
        firstCharacters();
        digitsAfterALetter();
        twentyLetters();
        firstFault();
        shortestAndLongestWords();
        pagesThatAreNoWord();
        sixRoads();
        errorsInOrder();
        pageAfterAWord();
        DUE.finish("EdgePageTest");
    }

    private static RiverWords page(String text) {
        RiverWords words = new RiverWords();
        Due.page(words, text);
        return words;
    }

    /** "Creates an object without roads and without a river, with an empty page": every number is unknown. */
    private static void emptyObject() {
        Edge.Numbered[] unknown = {(words, n) -> words.road(n, 0), (words, n) -> words.sign(n, 0),
            (words, n) -> words.table(n, 0), (words, n) -> words.form(n, 0), (words, n) -> words.end(n, 0),
            (words, n) -> words.alike(n, n), (words, n) -> words.cross(n, n), (words, n) -> words.turn(n, 0),
            (words, n) -> words.change(n, 0), (words, n) -> words.join(n, n), (words, n) -> words.times(n, 2),
            (words, n) -> words.where(n), (words, n) -> words.simple(n, 0), (words, n) -> words.cycle(n, 0),
            (words, n) -> words.step(n, 0), (words, n) -> words.trace(n, 2), (words, n) -> words.lay(n)};
        for (int call = 0; call < unknown.length; call++) {
            Edge.Numbered asked = unknown[call];
            for (int number : new int[] {-1, 0, 1, Integer.MIN_VALUE, Integer.MAX_VALUE}) {
                EDGE.refused("1: call " + call + " of " + number, RiverWords::new, words -> asked.answer(words, number), Due.UNKNOWN);
            }
        }
        EDGE.refused("1: word()", RiverWords::new, RiverWords::word, Due.STATE);
        EDGE.refused("1: drop()", RiverWords::new, RiverWords::drop, Due.STATE);
        EDGE.refused("1: flow()", RiverWords::new, words -> words.flow(1, 0, -3, true), Due.STATE);
        EDGE.told("1: blank()", RiverWords::new, RiverWords::blank, 0);
        EDGE.told("1: fault()", RiverWords::new, RiverWords::fault, 0);
    }

    /** "its code, 32 to 126" */
    private static void codes() {
        EDGE.range("2: letter", RiverWords::new, RiverWords::letter, 32, 126, Due.OUTSIDE);
        EDGE.range("2: letter on a page of 19", () -> page("LRLRLRLRLRLRLRLRLRL"), RiverWords::letter, 32, 126, Due.OUTSIDE);
        for (int code = -2; code < 400; code++) {
            boolean inside = code >= 32 && code <= 126;
            DUE.due("2: letter(" + code + ")", new RiverWords().letter(code), inside ? 1 : Due.OUTSIDE);
        }
        for (int code : new int[] {31, 127, -1, 0, 'L' + 256, 'L' - 256, 'L' + 65536, Integer.MIN_VALUE, Integer.MAX_VALUE}) {
            EDGE.refusedAlways("2: letter(" + code + ")", words -> words.letter(code), Due.OUTSIDE);
        }
        for (int code : new int[] {32, 126}) {
            RiverWords words = new RiverWords();
            words.letter(code);
            // A new object's hash has the code once more before the seven counts, of which the page's is then 1.
            DUE.due("2: the code " + code + " in the hash", words.digest(), 1549L * 852891037441L + code * 27512614111L + 29791);
        }
    }

    /** "FULL if the page has 20 characters" */
    private static void twentyCharacters() {
        RiverWords words = new RiverWords();
        for (int size = 1; size <= 20; size++) {
            DUE.due("2: character " + size, words.letter(31 + size), size);
            DUE.due("2: count(3) after " + size, words.count(3), size);
        }
        for (int code : new int[] {32, 'L', '2', 126}) {
            EDGE.refused("2: character 21", () -> page(TWENTY), full -> full.letter(code), Due.FULL);
            EDGE.refused("2: character 21 after wrong ones", () -> page("x".repeat(20)), full -> full.letter(code), Due.FULL);
        }
        // OUTSIDE is named before FULL.
        for (int code : new int[] {31, 127, Integer.MIN_VALUE, Integer.MAX_VALUE}) {
            EDGE.refused("2: letter(" + code + ") on a full page", () -> page(TWENTY), full -> full.letter(code), Due.OUTSIDE);
        }
        RiverWords full = page(TWENTY);
        full.letter('L');
        DUE.due("2: a full page after a refused character is a word still", full.word(), 0);
        DUE.letters("2: a full page", full, 0, TWENTY);
    }

    /** "Returns how many characters it had." */
    private static void blanks() {
        for (int size = 0; size <= 20; size++) {
            String text = TWENTY.substring(0, size);
            RiverWords words = page(text);
            DUE.due("3: blank() of " + size, words.blank(), size);
            DUE.due("3: blank() after it", words.blank(), 0);
            EDGE.same("3: after blank() of " + size, () -> {
                RiverWords blanked = page(text);
                blanked.blank();
                return blanked;
            }, RiverWords::new);
        }
        RiverWords words = page(TWENTY);
        words.letter('L');
        DUE.due("3: a refused character is not counted", words.blank(), 20);
        DUE.due("3: the first character again", words.letter('L'), 1);
        EDGE.same("3: the roads and the river stay", () -> {
            RiverWords some = Edge.SOME.make();
            some.blank();
            return some;
        }, () -> Edge.laid(12, "", "RL2", "L3", "L9R9LR"));
    }

    /** "It consists of letters L and R": only they can stand first. */
    private static void firstCharacters() {
        for (int code = 32; code <= 126; code++) {
            boolean good = code == 'L' || code == 'R';
            String text = String.valueOf((char) code);
            EDGE.told("4: fault() of " + text, () -> page(text), RiverWords::fault, good ? 1 : 0);
            DUE.due("5: word() of " + text, page(text).word(), good ? 0 : Due.STATE);
        }
    }

    /** "a letter may be followed by a digit from 2 to 9": one digit, and only after a letter. */
    private static void digitsAfterALetter() {
        for (int code = 32; code <= 126; code++) {
            boolean letter = code == 'L' || code == 'R';
            boolean digit = code >= '2' && code <= '9';
            char character = (char) code;
            for (String before : new String[] {"L", "R", "LR", "R2L"}) {
                String text = before + character;
                DUE.due("4: fault() of " + text, page(text).fault(), text.length() - (letter || digit ? 0 : 1));
                DUE.due("5: word() of " + text, page(text).word(), letter || digit ? 0 : Due.STATE);
            }
            for (String before : new String[] {"L2", "R9", "LR3"}) {
                String text = before + character;
                DUE.due("4: fault() of " + text, page(text).fault(), text.length() - (letter ? 0 : 1));
                DUE.due("5: word() of " + text, page(text).word(), letter ? 0 : Due.STATE);
            }
        }
        for (int digit = 2; digit <= 9; digit++) {
            RiverWords words = Due.with("R" + digit, "L" + digit, "RL" + digit + "R");
            DUE.letters("5: R" + digit, words, 0, "R".repeat(digit));
            DUE.letters("5: L" + digit, words, 1, "L".repeat(digit));
            DUE.letters("5: RL" + digit + "R", words, 2, "R" + "L".repeat(digit) + "R");
        }
    }

    /** "The word must not have more than 20 letters." */
    private static void twentyLetters() {
        for (int letters = 1; letters < 20; letters++) {
            String before = TWENTY.substring(0, letters);
            for (int digit = 2; digit <= 9; digit++) {
                boolean good = letters - 1 + digit <= 20;
                String text = before + digit;
                DUE.due("4: fault() of " + text, page(text).fault(), letters + (good ? 1 : 0));
                DUE.due("5: word() of " + text, page(text).word(), good ? 0 : Due.STATE);
            }
        }
        String[] twenty = {"L9L9L2", "R9R9RR", "L9R9L2", "L9R2L9", "LR9L9R", "L4R4L4R4L4", TWENTY};
        for (String text : twenty) {
            DUE.due("4: fault() of " + text, page(text).fault(), text.length());
            RiverWords words = page(text);
            DUE.due("5: word() of " + text, words.word(), 0);
            DUE.due("5: the letters of " + text, words.road(0, 0), 20);
        }
        for (String more : new String[] {"L", "R", "2", "LL", "R2"}) {
            String text = "L9R9LR" + more;
            DUE.due("4: fault() of " + text, page(text).fault(), 6);
            EDGE.refused("5: word() of " + text, () -> page(text), RiverWords::word, Due.STATE);
        }
    }

    /** "the first character of the page with which the text so far is no beginning" */
    private static void firstFault() {
        for (int place = 0; place < 20; place++) {
            for (String wrong : new String[] {" ", "1", "~", "l"}) {
                String text = TWENTY.substring(0, place) + wrong + TWENTY.substring(place + 1);
                EDGE.told("4: fault() of " + text, () -> page(text), RiverWords::fault, place);
                DUE.due("5: word() of " + text, page(text).word(), Due.STATE);
            }
        }
        DUE.due("4: no fault in 20 characters", page(TWENTY).fault(), 20);
        DUE.due("4: the first of many faults", page("x".repeat(20)).fault(), 0);
        // The text is too long from index 5 on, though the page would be a word without that character.
        DUE.due("4: a digit too great, then letters", page("L9R9L4L").fault(), 5);
        DUE.due("4: after a letter too many a digit is none", page("L9R9LRLx").fault(), 6);
    }

    /** "A word is a sequence of 1 to 20 letters" */
    private static void shortestAndLongestWords() {
        for (String text : new String[] {"L", "R"}) {
            RiverWords words = page(text);
            DUE.due("5: word() of " + text, words.word(), 0);
            DUE.letters("5: " + text, words, 0, text);
        }
        for (int size = 1; size <= 20; size++) {
            RiverWords words = page(TWENTY.substring(0, size));
            DUE.due("5: word() of " + size + " letters", words.word(), 0);
            DUE.letters("5: " + size + " letters", words, 0, TWENTY.substring(0, size));
        }
    }

    /** "STATE if the page is not the text of a word (also if it is empty)" */
    private static void pagesThatAreNoWord() {
        for (String text : new String[] {"", " ", "2", "L ", " L", "L1", "L22", "L:", "L/", "lr", "L9R9L3", "L9R9LRL", TWENTY.substring(1) + "1"}) {
            EDGE.refused("5: word() of \"" + text + "\"", () -> page(text), RiverWords::word, Due.STATE);
            EDGE.refused("5: word() of \"" + text + "\" after a road", () -> Edge.laid(12, text, "LR"), RiverWords::word, Due.STATE);
        }
    }

    /** "There are at most six words, called roads, numbered from 0" */
    private static void sixRoads() {
        RiverWords words = new RiverWords();
        for (int road = 0; road < 6; road++) {
            words.letter('L');
            DUE.due("5: word() number " + road, words.word(), road);
            DUE.due("5: count(0)", words.count(0), road + 1);
        }
        EDGE.refused("5: a seventh word()", Edge.SIX, RiverWords::word, Due.FULL);
        EDGE.refused("5: a seventh word() of 20 letters", () -> Due.full(TWENTY), RiverWords::word, Due.FULL);
        RiverWords full = Edge.SIX.make();
        full.word();
        DUE.due("5: the page stays for later", full.blank(), 3);
        RiverWords waiting = Edge.SIX.make();
        waiting.word();
        waiting.drop();
        DUE.due("5: the page is read when there is room", waiting.word(), 5);
        DUE.letters("5: the page", waiting, 5, "LRR");
        DUE.due("5: a refused word() is no reading", waiting.count(4), 7);
    }

    /** STATE is named before FULL. */
    private static void errorsInOrder() {
        for (String text : new String[] {"", "2", "L1", "L9R9L3"}) {
            EDGE.refused("5: word() of \"" + text + "\" with six roads", () -> Due.full(text), RiverWords::word, Due.STATE);
        }
    }

    /** "Reads the page as a new road, and empties the page." */
    private static void pageAfterAWord() {
        RiverWords words = page(TWENTY);
        words.word();
        DUE.due("5: the page is empty", words.count(3), 0);
        DUE.due("5: no fault on the empty page", words.fault(), 0);
        DUE.due("5: the first character again", words.letter('2'), 1);
        DUE.due("5: the letter before it is gone", words.fault(), 0);
        words.blank();
        Due.page(words, "R9R9R2");
        DUE.due("5: the twenty letters before are gone", words.word(), 1);
        EDGE.refused("5: word() twice", () -> Due.with("LR"), RiverWords::word, Due.STATE);
    }
}
