/** Promises 1 to 5: a new object, and the page. */
final class PageTest {
    private static final Due DUE = new Due();

    public static void main(String[] args) {
        newObject();
        letter();
        blank();
        fault();
        word();
        DUE.finish("PageTest");
    }

    private static void newObject() {
        RiverWords words = new RiverWords();
        for (int what = 0; what < 7; what++) {
            DUE.due("1: count(" + what + ")", words.count(what), 0);
        }
        // Only the seven counts, each 0, are in the hash: 1549 * 31^7.
        DUE.due("1: digest()", words.digest(), 1549L * 27512614111L);
        DUE.due("1: fault()", words.fault(), 0);
        DUE.due("1: blank()", words.blank(), 0);
        DUE.due("1: road(0, 0)", words.road(0, 0), Due.UNKNOWN);
        DUE.due("1: simple(0, 0)", words.simple(0, 0), Due.UNKNOWN);
        DUE.due("1: cycle(0, 0)", words.cycle(0, 0), Due.UNKNOWN);
        DUE.due("1: drop()", words.drop(), Due.STATE);
        Due.page(words, "LR");
        words.word();
        words.river(5);
        DUE.due("1: a second object has its own roads", new RiverWords().count(0), 0);
    }

    private static void letter() {
        RiverWords words = new RiverWords();
        for (int code : new int[] {31, 127, 0, -1, 128, 'L' + 256, Integer.MIN_VALUE, Integer.MAX_VALUE}) {
            DUE.refused(words, "2: letter(" + code + ")", () -> words.letter(code), Due.OUTSIDE);
        }
        DUE.due("2: letter(32)", words.letter(32), 1);
        DUE.due("2: letter(126)", words.letter(126), 2);
        for (int size = 3; size <= 20; size++) {
            DUE.due("2: letter(76)", words.letter(76), size);
        }
        DUE.refused(words, "2: letter(76) on a full page", () -> words.letter(76), Due.FULL);
        DUE.refused(words, "2: letter(31) on a full page", () -> words.letter(31), Due.OUTSIDE);
        DUE.due("2: count(3)", words.count(3), 20);
    }

    private static void blank() {
        RiverWords words = new RiverWords();
        Due.page(words, "L9x");
        DUE.due("3: blank()", words.blank(), 3);
        DUE.due("3: count(3)", words.count(3), 0);
        DUE.due("3: blank() again", words.blank(), 0);
        DUE.due("3: the fault is gone", words.fault(), 0);
        Due.page(words, "2");
        DUE.due("3: the letter before is gone", words.fault(), 0);
        DUE.due("3: blank() of one", words.blank(), 1);
        Due.page(words, "L9L9L2");
        DUE.due("3: the letters before are gone", words.fault(), 6);
        DUE.due("3: blank() of six", words.blank(), 6);
        Due.page(words, "RL");
        DUE.due("3: word() after it", words.word(), 0);
        DUE.letters("3", words, 0, "RL");
    }

    private static void fault() {
        String[] texts = {"", "L", "R", "L2", "L9", "R2R3", "L1", "L0", "2", "22", "L22", "LL2R", "l", "r", "L R", " L", "L:",
            "LRX", "LRXLR", "R/", "L9R9L3", "L9R9L2", "L9R9L2R", "L9R9LLR", "L9R9LL2", "L9R9L4", "LRLRLRLRLRLRLRLRLRLR",
            "LRLRLRLRLRLRLRLRLRL3", "L9L9L9", "L9R9L3L", "L9R9L3L2", "L2L3X2", "~", "L9R9R2"};
        int[] due = {0, 1, 1, 2, 2, 4, 1, 1, 0, 0, 2, 4, 0, 0, 1, 0, 1,
            2, 2, 1, 5, 6, 6, 6, 6, 5, 20,
            19, 5, 5, 5, 4, 0, 6};
        for (int i = 0; i < texts.length; i++) {
            RiverWords words = new RiverWords();
            Due.page(words, texts[i]);
            DUE.due("4: fault() of \"" + texts[i] + "\"", words.fault(), due[i]);
            DUE.due("4: fault() of \"" + texts[i] + "\" again", words.fault(), due[i]);
            DUE.due("4: the page stays", words.count(3), texts[i].length());
        }
    }

    private static void word() {
        String[] texts = {"L", "R9", "LR", "L2R3", "L9R9L2", "R2L", "LLR", "LRLRLRLRLRLRLRLRLRLR", "R9R9R2", "RL2RL"};
        String[] due = {"L", "RRRRRRRRR", "LR", "LLRRR", "LLLLLLLLLRRRRRRRRRLL", "RRL", "LLR", "LRLRLRLRLRLRLRLRLRLR",
            "RRRRRRRRRRRRRRRRRRRR", "RLLRL"};
        for (int i = 0; i < texts.length; i++) {
            RiverWords words = new RiverWords();
            Due.page(words, texts[i]);
            DUE.due("5: word() of " + texts[i], words.word(), 0);
            DUE.letters("5: " + texts[i], words, 0, due[i]);
            DUE.due("5: the page is empty", words.count(3), 0);
            DUE.due("5: count(4)", words.count(4), 1);
        }
        for (String text : new String[] {"", "2", "L1", "LR ", "L22", "L9R9L3", "lr", "L9R9L2R"}) {
            RiverWords words = Due.with("LR");
            Due.page(words, text);
            DUE.refused(words, "5: word() of \"" + text + "\"", words::word, Due.STATE);
        }
        RiverWords words = new RiverWords();
        for (int road = 0; road < 6; road++) {
            Due.page(words, "LR2");
            DUE.due("5: word() number " + road, words.word(), road);
        }
        DUE.refused(words, "5: word() of nothing with six roads", words::word, Due.STATE);
        Due.page(words, "RL");
        DUE.refused(words, "5: word() with six roads", words::word, Due.FULL);
        words.letter(33);
        DUE.refused(words, "5: word() of a wrong text with six roads", words::word, Due.STATE);
        words.blank();
        Due.page(words, "RL");
        words.drop();
        DUE.due("5: word() after drop()", words.word(), 5);
        DUE.letters("5: after drop()", words, 5, "RL");
    }
}
