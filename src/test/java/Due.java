/** Compares answers with those that are due, and tells the differences. */
final class Due {
    static final int NONE = -2000000001, UNKNOWN = -2000000101, OUTSIDE = -2000000102, STATE = -2000000103, FULL = -2000000104;
    static final int[] WILD = {Integer.MIN_VALUE, -1000, -1, 1000, Integer.MAX_VALUE};

    private static final int MOST_TOLD = 40;
    private int compared;
    private int wrong;

    void due(String call, long got, long want) {
        compared++;
        if (got == want) {
            return;
        }
        wrong++;
        if (wrong <= MOST_TOLD) {
            System.out.println(call + " answered " + got + ", due is " + want);
        }
    }

    /** Compares several answers in order. */
    void row(String call, long[] got, long... want) {
        due(call + ": how many", got.length, want.length);
        for (int i = 0; i < got.length && i < want.length; i++) {
            due(call + ": answer " + i, got[i], want[i]);
        }
    }

    /** A call that returns an error changes nothing. */
    void refused(RiverWords words, String call, java.util.function.IntSupplier answer, int error) {
        long before = words.digest();
        int fault = words.fault();
        due(call, answer.getAsInt(), error);
        due(call + ": the state", words.digest(), before);
        due(call + ": the fault", words.fault(), fault);
    }

    void finish(String test) {
        System.out.println(test + ": " + compared + " answers compared, " + wrong + " wrong");
        if (wrong != 0 || compared == 0) {
            System.exit(1);
        }
    }

    static void page(RiverWords words, String text) {
        for (int i = 0; i < text.length(); i++) {
            words.letter(text.charAt(i));
        }
    }

    /** A new object with these texts read as its roads. */
    static RiverWords with(String... texts) {
        RiverWords words = new RiverWords();
        for (String text : texts) {
            page(words, text);
            words.word();
        }
        return words;
    }

    /** A new object with six roads LR and this text on the page. */
    static RiverWords full(String text) {
        RiverWords words = with("LR", "LR", "LR", "LR", "LR", "LR");
        page(words, text);
        return words;
    }

    static String letters(RiverWords words, int road) {
        StringBuilder letters = new StringBuilder();
        int size = words.road(road, 0);
        for (int place = 0; place < size; place++) {
            letters.append((char) words.sign(road, place));
        }
        return letters.toString();
    }

    /** Compares the letters of a road. */
    void letters(String call, RiverWords words, int road, String want) {
        String got = letters(words, road);
        due(call + ": road " + road + " is " + got + ", due is " + want, got.equals(want) ? 1 : 0, 1);
    }
}
