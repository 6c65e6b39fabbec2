/** Words of left and right turns, their matrices and forms, and the rivers of a discriminant. */
public final class RiverWords {
    public static final int NONE = -2000000001, UNKNOWN = -2000000101, OUTSIDE = -2000000102, STATE = -2000000103, FULL = -2000000104;

    private static final int MOST_LETTERS = 20, MOST_CHARACTERS = 20, MOST_ROADS = 6;
    private static final int LEAST_DISCRIMINANT = 5, MOST_DISCRIMINANT = 900, MOST_ROOT = 30;
    private static final int MOST_MODULUS = 1000, DIGEST_MODULUS = 997;
    private static final int MOST_FLOW_NUMBER = 999, MOST_CUT_NUMBER = 99;
    private static final int LEAST_TIMES = 2, MOST_TIMES = 5, MOST_DRAWN = 40;
    private static final int ROAD_PROPERTIES = 10, MATRIX_NUMBERS = 4, FORM_NUMBERS = 5, END_NUMBERS = 2;
    private static final int CHANGES = 3, SIMPLE_PROPERTIES = 8, CYCLE_PROPERTIES = 5, DRAWN_SUMS = 4, COUNTS = 7;
    private static final long DIGEST_START = 1549L;

    private final Page page = new Page();
    private final Word[] roads = new Word[MOST_ROADS];
    private final River river = new River();
    private final Draw draw = new Draw();
    private int roadCount;
    private int readings;

    public RiverWords() {
    }

    public int letter(int code) {
        if (code < 32 || code > 126) {
            return OUTSIDE;
        }
        if (page.size >= MOST_CHARACTERS) {
            return FULL;
        }
        page.append(code);
        return page.size;
    }

    public int blank() {
        int size = page.size;
        page.clear();
        return size;
    }

    public int fault() {
        return page.good;
    }

    public int word() {
        if (!page.isWord()) {
            return STATE;
        }
        int number = addRoad(page.bits, page.letters);
        if (number >= 0) {
            page.clear();
            readings++;
        }
        return number;
    }

    public int road(int road, int what) {
        Word word = roadAt(road);
        if (word == null) {
            return UNKNOWN;
        }
        switch (what) {
            case 0: return word.size;
            case 1: return word.size - Integer.bitCount(word.bits);
            case 2: return Integer.bitCount(word.bits);
            case 3: return word.period();
            case 4: return word.leastTurn();
            case 5: return word.traceSum();
            case 6: return word.isClosed() ? 1 : 0;
            case 7: return word.isConjugate(word.reversal()) ? 1 : 0;
            case 8: return word.isConjugate(word.complement(word.bits)) ? 1 : 0;
            case 9: return word.isConjugate(word.complement(word.reversal())) ? 1 : 0;
            default: return OUTSIDE;
        }
    }

    public int sign(int road, int place) {
        Word word = roadAt(road);
        if (word == null || place < 0 || place >= word.size) {
            return UNKNOWN;
        }
        return code(word.bitAt(place));
    }

    public int table(int road, int what) {
        Word word = roadAt(road);
        if (word == null) {
            return UNKNOWN;
        }
        switch (what) {
            case 0: return word.a;
            case 1: return word.b;
            case 2: return word.c;
            case 3: return word.d;
            default: return OUTSIDE;
        }
    }

    public int form(int road, int what) {
        Word word = roadAt(road);
        if (word == null) {
            return UNKNOWN;
        }
        if (what < 0 || what >= FORM_NUMBERS) {
            return OUTSIDE;
        }
        return word.isClosed() ? word.formNumber(what) : STATE;
    }

    public int end(int road, int what) {
        Word word = roadAt(road);
        if (word == null) {
            return UNKNOWN;
        }
        switch (what) {
            case 0: return word.a + word.b;
            case 1: return word.c + word.d;
            default: return OUTSIDE;
        }
    }

    public int alike(int one, int other) {
        Word first = roadAt(one);
        Word second = roadAt(other);
        if (first == null || second == null) {
            return UNKNOWN;
        }
        return first.size == second.size ? first.turnTo(second.bits, 0) : NONE;
    }

    public int cross(int one, int other) {
        Word first = roadAt(one);
        Word second = roadAt(other);
        if (first == null || second == null) {
            return UNKNOWN;
        }
        return first.isClosed() && second.isClosed() ? first.crossings(second) : STATE;
    }

    public int turn(int road, int by) {
        Word word = roadAt(road);
        if (word == null) {
            return UNKNOWN;
        }
        if (by < 0 || by >= word.size) {
            return OUTSIDE;
        }
        word.become(word.rotation(by), word.size);
        return word.period();
    }

    public int change(int road, int how) {
        Word word = roadAt(road);
        if (word == null) {
            return UNKNOWN;
        }
        if (how < 0 || how >= CHANGES) {
            return OUTSIDE;
        }
        word.become(word.changed(how), word.size);
        return word.traceSum();
    }

    public int join(int one, int other) {
        Word first = roadAt(one);
        Word second = roadAt(other);
        if (first == null || second == null) {
            return UNKNOWN;
        }
        return addRoad(first.bits << second.size | second.bits, first.size + second.size);
    }

    public int times(int road, int n) {
        Word word = roadAt(road);
        if (word == null) {
            return UNKNOWN;
        }
        if (n < LEAST_TIMES || n > MOST_TIMES) {
            return OUTSIDE;
        }
        int bits = 0;
        for (int copy = 0; copy < n; copy++) {
            bits = bits << word.size | word.bits;
        }
        return addRoad(bits, n * word.size);
    }

    public int cut(int p, int q) {
        if (p < 1 || p > MOST_CUT_NUMBER || q < 1 || q > MOST_CUT_NUMBER || p == q || commonDivisor(p, q) > 1) {
            return OUTSIDE;
        }
        int bits = 0;
        int size = 0;
        int above = p;
        int below = q;
        for (; above != below && size < MOST_CUT_NUMBER; size++) {
            if (above > below) {
                bits = bits << 1 | 1;
                above -= below;
            } else {
                bits = bits << 1;
                below -= above;
            }
        }
        return addRoad(bits, size);
    }

    public int drop() {
        if (roadCount <= 0) {
            return STATE;
        }
        roadCount--;
        return roadCount;
    }

    public int river(int d) {
        if (d < LEAST_DISCRIMINANT || d > MOST_DISCRIMINANT || d % 4 > 1 || isSquare(d)) {
            return OUTSIDE;
        }
        river.become(d);
        return river.size;
    }

    public int simple(int form, int what) {
        if (!river.hasForm(form)) {
            return UNKNOWN;
        }
        return what >= 0 && what < SIMPLE_PROPERTIES ? river.ofForm(form, what) : OUTSIDE;
    }

    public int cycle(int cycle, int what) {
        if (!river.hasCycle(cycle)) {
            return UNKNOWN;
        }
        return what >= 0 && what < CYCLE_PROPERTIES ? river.ofCycle(cycle, what) : OUTSIDE;
    }

    public int step(int cycle, int place) {
        if (!river.hasCycle(cycle) || place < 0 || place >= river.ofCycle(cycle, River.LENGTH)) {
            return UNKNOWN;
        }
        return river.letterAt(cycle, place);
    }

    public int trace(int cycle, int m) {
        if (!river.hasCycle(cycle)) {
            return UNKNOWN;
        }
        return m >= 2 && m <= MOST_MODULUS ? river.traceRemainder(cycle, m) : OUTSIDE;
    }

    public int flow(int a, int b, int c, boolean told) {
        if (!river.exists()) {
            return STATE;
        }
        if (!isFlowNumber(a) || !isFlowNumber(b) || !isFlowNumber(c)) {
            return OUTSIDE;
        }
        if (discriminantOf(a, b, c) != river.discriminant || commonDivisor(commonDivisor(a, b), c) > 1) {
            return OUTSIDE;
        }
        return river.follow(a, b, c, told);
    }

    public int lay(int cycle) {
        if (!river.hasCycle(cycle)) {
            return UNKNOWN;
        }
        return addRoad(river.wordBits(cycle), river.ofCycle(cycle, River.LENGTH));
    }

    public int where(int road) {
        Word word = roadAt(road);
        if (word == null) {
            return UNKNOWN;
        }
        if (!word.isClosed() || !river.exists()) {
            return STATE;
        }
        return river.find(word.formNumber(0), word.formNumber(1), word.formNumber(2));
    }

    public int drawn(int times, int seed, int what) {
        if (times < 1 || times > MOST_DRAWN || seed < 0 || what < 0 || what >= DRAWN_SUMS) {
            return OUTSIDE;
        }
        draw.run(times, seed);
        switch (what) {
            case 0: return draw.closed;
            case 1: return draw.traces;
            case 2: return draw.crossings;
            default: return (int) draw.s;
        }
    }

    public int count(int what) {
        switch (what) {
            case 0: return roadCount;
            case 1: return closedRoads();
            case 2: return roadClasses();
            case 3: return page.size;
            case 4: return readings;
            case 5: return river.size;
            case 6: return river.cycleCount;
            default: return OUTSIDE;
        }
    }

    public long digest() {
        long hash = hashRoads(DIGEST_START);
        hash = hashCrossings(hash);
        hash = hashForms(hash);
        hash = hashCycles(hash);
        hash = page.hashed(hash);
        for (int what = 0; what < COUNTS; what++) {
            hash = mix(hash, count(what));
        }
        return hash;
    }

    private long hashRoads(long start) {
        long hash = start;
        for (int road = 0; road < roadCount; road++) {
            hash = hashRoad(hash, road);
        }
        return hash;
    }

    private long hashRoad(long start, int road) {
        long hash = start;
        for (int what = 0; what < ROAD_PROPERTIES; what++) {
            hash = mix(hash, road(road, what));
        }
        int size = road(road, 0);
        for (int place = 0; place < size; place++) {
            hash = mix(hash, sign(road, place));
        }
        for (int what = 0; what < MATRIX_NUMBERS; what++) {
            hash = mix(hash, table(road, what));
        }
        for (int what = 0; what < END_NUMBERS; what++) {
            hash = mix(hash, end(road, what));
        }
        for (int what = 0; what < FORM_NUMBERS && isClosedRoad(road); what++) {
            hash = mix(hash, form(road, what));
        }
        return hash;
    }

    private long hashCrossings(long start) {
        long hash = start;
        for (int one = 0; one < roadCount; one++) {
            for (int other = one; other < roadCount; other++) {
                if (isClosedRoad(one) && isClosedRoad(other)) {
                    hash = mix(hash, cross(one, other));
                }
            }
        }
        return hash;
    }

    private long hashForms(long start) {
        long hash = start;
        for (int form = 0; form < river.size; form++) {
            for (int what = 0; what < SIMPLE_PROPERTIES; what++) {
                hash = mix(hash, simple(form, what));
            }
        }
        return hash;
    }

    private long hashCycles(long start) {
        long hash = start;
        for (int cycle = 0; cycle < river.cycleCount; cycle++) {
            for (int what = 0; what < CYCLE_PROPERTIES; what++) {
                hash = mix(hash, cycle(cycle, what));
            }
            hash = mix(hash, trace(cycle, DIGEST_MODULUS));
        }
        return hash;
    }

    private static long mix(long hash, int value) {
        return 31 * hash + value;
    }

    /** The road of a number, null if there is none. */
    private Word roadAt(int road) {
        return road >= 0 && road < roadCount && road < roads.length ? roads[road] : null;
    }

    /** Adds a road unless it is too long; the bits of a word that is too long need not be right. */
    private int addRoad(int bits, int size) {
        if (size > MOST_LETTERS) {
            return STATE;
        }
        if (roadCount < 0 || roadCount >= roads.length) {
            return FULL;
        }
        int number = roadCount;
        roads[number] = new Word(bits, size);
        roadCount++;
        return number;
    }

    private boolean isClosedRoad(int road) {
        Word word = roadAt(road);
        return word != null && word.isClosed();
    }

    private int closedRoads() {
        int found = 0;
        for (int road = 0; road < roadCount; road++) {
            if (isClosedRoad(road)) {
                found++;
            }
        }
        return found;
    }

    private int roadClasses() {
        int found = 0;
        for (int road = 0; road < roadCount; road++) {
            if (isFirstOfClass(road)) {
                found++;
            }
        }
        return found;
    }

    private boolean isFirstOfClass(int road) {
        for (int lower = 0; lower < road; lower++) {
            if (alike(lower, road) >= 0) {
                return false;
            }
        }
        return true;
    }

    private static int code(int bit) {
        return bit == 1 ? 'R' : 'L';
    }

    private static boolean isFlowNumber(int number) {
        return number >= -MOST_FLOW_NUMBER && number <= MOST_FLOW_NUMBER;
    }

    private static int discriminantOf(int a, int b, int c) {
        return b * b - 4 * a * c;
    }

    private static boolean isSquare(int number) {
        for (int root = 0; root <= MOST_ROOT; root++) {
            if (root * root == number) {
                return true;
            }
        }
        return false;
    }

    /** The greatest common divisor, and 1 for two zeros, so that it can always divide. */
    private static int commonDivisor(int one, int other) {
        int large = Math.abs(one);
        int small = Math.abs(other);
        // Numbers of 31 bits need fewer than 50 divisions.
        for (int division = 0; division < 100 && small > 0; division++) {
            int rest = large % small;
            large = small;
            small = rest;
        }
        return Math.max(1, large);
    }

    /** The text that waits to be read, and the word that its good beginning says. */
    private static final class Page {
        final int[] codes = new int[MOST_CHARACTERS];
        int size;
        /** The number of characters before the first fault. */
        int good;
        int bits;
        int letters;
        private boolean afterLetter;

        void clear() {
            size = 0;
            good = 0;
            bits = 0;
            letters = 0;
            afterLetter = false;
        }

        void append(int code) {
            if (size < 0 || size >= codes.length) {
                return;
            }
            if (good == size && continues(code)) {
                good++;
            }
            codes[size] = code;
            size++;
        }

        boolean isWord() {
            return size > 0 && good == size;
        }

        /** Takes a character into the word, if it can follow there. */
        private boolean continues(int code) {
            boolean isLetter = code == 'L' || code == 'R';
            boolean isDigit = afterLetter && code >= '2' && code <= '9';
            if (!isLetter && !isDigit) {
                return false;
            }
            // The letter before a digit stands there once already.
            int copies = isLetter ? 1 : code - '1';
            if (letters + copies > MOST_LETTERS) {
                return false;
            }
            int bit = isLetter ? (code == 'R' ? 1 : 0) : bits & 1;
            for (int copy = 0; copy < copies; copy++) {
                bits = bits << 1 | bit;
            }
            letters += copies;
            afterLetter = isLetter;
            return true;
        }

        long hashed(long start) {
            long hash = start;
            for (int place = 0; place < size && place < codes.length; place++) {
                hash = mix(hash, codes[place]);
            }
            return hash;
        }
    }

    /**
     * A word. Its letters are the low bits of a number, the first letter the highest of them, L is 0 and R is 1:
     * words of one length are then in lexicographic order where their numbers are in order.
     */
    private static final class Word {
        int bits;
        int size;
        private int allBits;
        int a;
        int b;
        int c;
        int d;

        Word(int bits, int size) {
            become(bits, size);
        }

        void become(int newBits, int newSize) {
            bits = newBits;
            size = newSize;
            allBits = (1 << newSize) - 1;
            a = 1;
            b = 0;
            c = 0;
            d = 1;
            for (int place = 0; place < size; place++) {
                if (bitAt(place) == 1) {
                    b += a;
                    d += c;
                } else {
                    a += b;
                    c += d;
                }
            }
        }

        int bitAt(int place) {
            return bits >> (size - 1 - place) & 1;
        }

        boolean isClosed() {
            return bits != 0 && bits != allBits;
        }

        int traceSum() {
            return a + d;
        }

        int rotation(int by) {
            return (bits << by | bits >> (size - by)) & allBits;
        }

        int reversal() {
            int reversed = 0;
            for (int place = size - 1; place >= 0; place--) {
                reversed = reversed << 1 | bitAt(place);
            }
            return reversed;
        }

        /** The complement of a word that is as long as this one. */
        int complement(int otherBits) {
            return otherBits ^ allBits;
        }

        int changed(int how) {
            switch (how) {
                case 0: return reversal();
                case 1: return complement(bits);
                default: return rotation(leastTurn());
            }
        }

        /** The smallest k from first on with which the rotation is a word of the same length, or NONE. */
        int turnTo(int otherBits, int first) {
            for (int by = first; by < size; by++) {
                if (rotation(by) == otherBits) {
                    return by;
                }
            }
            return NONE;
        }

        boolean isConjugate(int otherBits) {
            return turnTo(otherBits, 0) != NONE;
        }

        int period() {
            int by = turnTo(bits, 1);
            return by == NONE ? size : by;
        }

        int leastTurn() {
            int least = 0;
            for (int by = 1; by < size; by++) {
                if (rotation(by) < rotation(least)) {
                    least = by;
                }
            }
            return least;
        }

        int formNumber(int what) {
            int grade = commonDivisor(commonDivisor(c, d - a), b);
            int first = c / grade;
            int middle = (d - a) / grade;
            int last = -b / grade;
            switch (what) {
                case 0: return first;
                case 1: return middle;
                case 2: return last;
                case 3: return grade;
                default: return discriminantOf(first, middle, last);
            }
        }

        int crossings(Word other) {
            int found = 0;
            for (int place = 0; place < size; place++) {
                for (int otherPlace = 0; otherPlace < other.size; otherPlace++) {
                    if (bitAt(place) != other.bitAt(otherPlace) && crosses(place, other, otherPlace)) {
                        found++;
                    }
                }
            }
            return found;
        }

        /** Whether two words whose letters are different here were the other way round where they parted before. */
        private boolean crosses(int place, Word other, int otherPlace) {
            int back = place;
            int otherBack = otherPlace;
            // After so many letters both words are back where they started, and there they are different.
            for (int letters = size * other.size; letters > 0; letters--) {
                back = back > 0 ? back - 1 : size - 1;
                otherBack = otherBack > 0 ? otherBack - 1 : other.size - 1;
                if (bitAt(back) != other.bitAt(otherBack)) {
                    return bitAt(back) != bitAt(place);
                }
            }
            return false;
        }
    }

    /** The simple forms of a discriminant, in their order, and the cycles in which they lie. */
    private static final class River {
        /** Enough for each discriminant: 889 has the most simple forms, 817 the most cycles. */
        private static final int MOST_FORMS = 320, MOST_CYCLES = 10;
        /** Each step but the last one makes |a| + |c| smaller, and both are at most 999 at first. */
        private static final int MOST_STEPS = 2000;
        /** Above half of MOST_FORMS, a power of two. */
        private static final int FIRST_LEAP = 256;
        static final int A = 0, B = 1, C = 2, CYCLE = 3, NEXT = 4, LETTER = 5, REVERSED = 6, OPPOSITE = 7;
        static final int LOWEST = 0, LENGTH = 1, LEFTS = 2, REVERSED_CYCLE = 3, OPPOSITE_CYCLE = 4;

        /** A row for each property, so that few arrays are made. */
        private final int[][] forms = new int[SIMPLE_PROPERTIES][MOST_FORMS];
        private final int[][] cycles = new int[CYCLE_PROPERTIES][MOST_CYCLES];
        int discriminant;
        int size;
        int cycleCount;

        boolean exists() {
            return size > 0;
        }

        boolean hasForm(int form) {
            return form >= 0 && form < size && form < MOST_FORMS;
        }

        boolean hasCycle(int cycle) {
            return cycle >= 0 && cycle < cycleCount && cycle < MOST_CYCLES;
        }

        int ofForm(int form, int what) {
            return hasForm(form) && what >= 0 && what < SIMPLE_PROPERTIES ? forms[what][form] : NONE;
        }

        int ofCycle(int cycle, int what) {
            return hasCycle(cycle) && what >= 0 && what < CYCLE_PROPERTIES ? cycles[what][cycle] : NONE;
        }

        private void setForm(int form, int what, int value) {
            if (hasForm(form) && what >= 0 && what < SIMPLE_PROPERTIES) {
                forms[what][form] = value;
            }
        }

        private void setCycle(int cycle, int what, int value) {
            if (hasCycle(cycle) && what >= 0 && what < CYCLE_PROPERTIES) {
                cycles[what][cycle] = value;
            }
        }

        void become(int newDiscriminant) {
            discriminant = newDiscriminant;
            size = 0;
            cycleCount = 0;
            for (int b = -MOST_ROOT; b <= MOST_ROOT; b++) {
                int rest = discriminant - b * b;
                if (rest > 0 && rest % 4 == 0) {
                    addForms(b, rest / 4);
                }
            }
            linkForms();
            addCycles();
            linkCycles();
        }

        /** Adds the simple forms with this b, whose a and -c have this product. */
        private void addForms(int b, int product) {
            for (int a = 1; a <= product; a++) {
                if (product % a == 0 && commonDivisor(commonDivisor(a, b), product / a) == 1) {
                    addForm(a, b, -(product / a));
                }
            }
        }

        private void addForm(int a, int b, int c) {
            if (size >= MOST_FORMS) {
                return;
            }
            int form = size;
            size++;
            setForm(form, A, a);
            setForm(form, B, b);
            setForm(form, C, c);
            setForm(form, CYCLE, NONE);
        }

        private void linkForms() {
            for (int form = 0; form < size; form++) {
                int a = ofForm(form, A);
                int b = ofForm(form, B);
                int c = ofForm(form, C);
                int sum = a + b + c;
                if (sum > 0) {
                    setForm(form, LETTER, 'L');
                    setForm(form, NEXT, find(sum, b + 2 * c, c));
                } else {
                    setForm(form, LETTER, 'R');
                    setForm(form, NEXT, find(a, b + 2 * a, sum));
                }
                setForm(form, REVERSED, find(a, -b, c));
                setForm(form, OPPOSITE, find(-c, -b, -a));
            }
        }

        private void addCycles() {
            for (int form = 0; form < size; form++) {
                if (ofForm(form, CYCLE) == NONE && cycleCount < MOST_CYCLES) {
                    addCycle(form);
                }
            }
        }

        private void addCycle(int lowest) {
            int cycle = cycleCount;
            cycleCount++;
            int form = lowest;
            int length = 0;
            int lefts = 0;
            for (; length < size && ofForm(form, CYCLE) == NONE; length++) {
                setForm(form, CYCLE, cycle);
                if (ofForm(form, LETTER) == 'L') {
                    lefts++;
                }
                form = ofForm(form, NEXT);
            }
            setCycle(cycle, LOWEST, lowest);
            setCycle(cycle, LENGTH, length);
            setCycle(cycle, LEFTS, lefts);
        }

        private void linkCycles() {
            for (int cycle = 0; cycle < cycleCount; cycle++) {
                int lowest = ofCycle(cycle, LOWEST);
                setCycle(cycle, REVERSED_CYCLE, ofForm(ofForm(lowest, REVERSED), CYCLE));
                setCycle(cycle, OPPOSITE_CYCLE, ofForm(ofForm(lowest, OPPOSITE), CYCLE));
            }
        }

        /** The number of a simple form, or NONE. */
        int find(int a, int b, int c) {
            int form = 0;
            for (int leap = FIRST_LEAP; leap > 0; leap /= 2) {
                if (form + leap < size && !isAfter(form + leap, a, b)) {
                    form += leap;
                }
            }
            boolean same = ofForm(form, A) == a && ofForm(form, B) == b && ofForm(form, C) == c;
            return same ? form : NONE;
        }

        private boolean isAfter(int form, int a, int b) {
            int formB = ofForm(form, B);
            return formB > b || formB == b && ofForm(form, A) > a;
        }

        int letterAt(int cycle, int place) {
            int form = ofCycle(cycle, LOWEST);
            for (int passed = 0; passed < place; passed++) {
                form = ofForm(form, NEXT);
            }
            return ofForm(form, LETTER);
        }

        /** The word of a cycle as the bits of a Word; right only if it is short enough for a road. */
        int wordBits(int cycle) {
            int length = ofCycle(cycle, LENGTH);
            int form = ofCycle(cycle, LOWEST);
            int bits = 0;
            for (int passed = 0; passed < length; passed++) {
                bits = bits << 1 | (ofForm(form, LETTER) == 'R' ? 1 : 0);
                form = ofForm(form, NEXT);
            }
            return bits;
        }

        int traceRemainder(int cycle, int m) {
            int modulus = Math.max(1, m);
            int length = ofCycle(cycle, LENGTH);
            int form = ofCycle(cycle, LOWEST);
            int a = 1;
            int b = 0;
            int c = 0;
            int d = 1;
            for (int passed = 0; passed < length; passed++) {
                if (ofForm(form, LETTER) == 'R') {
                    b = (a + b) % modulus;
                    d = (c + d) % modulus;
                } else {
                    a = (a + b) % modulus;
                    c = (c + d) % modulus;
                }
                form = ofForm(form, NEXT);
            }
            return (a + d) % modulus;
        }

        int follow(int startA, int startB, int startC, boolean told) {
            int a = startA;
            int b = startB;
            int c = startC;
            int steps = 0;
            for (; steps < MOST_STEPS && (a > 0) == (c > 0); steps++) {
                int t = (a > 0) == (b > 0) ? -1 : 1;
                int m = a + c + t * b;
                if (Math.abs(a) >= Math.abs(c)) {
                    b += 2 * t * c;
                    a = m;
                } else {
                    b += 2 * t * a;
                    c = m;
                }
            }
            if (told) {
                return steps;
            }
            return a < 0 ? find(c, -b, a) : find(a, b, c);
        }
    }

    /** Random words, one after the other, and what is told of them. */
    private static final class Draw {
        private static final int SIZE = 8;
        private final Word before = new Word(0, SIZE);
        private final Word now = new Word(0, SIZE);
        long s;
        int closed;
        int traces;
        int crossings;

        void run(int words, int seed) {
            s = seed;
            closed = 0;
            traces = 0;
            crossings = 0;
            // A word that is not closed stands before the first one, which has no crossings.
            now.become(0, SIZE);
            for (int word = 0; word < words; word++) {
                before.become(now.bits, SIZE);
                now.become(nextBits(), SIZE);
                tell();
            }
        }

        private int nextBits() {
            int bits = 0;
            for (int place = 0; place < SIZE; place++) {
                s = (1103515245L * s + 12345L) % 2147483648L;
                bits = bits << 1 | (int) (s / 65536L % 2L);
            }
            return bits;
        }

        private void tell() {
            if (!now.isClosed()) {
                return;
            }
            closed++;
            traces += now.traceSum();
            if (before.isClosed()) {
                crossings += now.crossings(before);
            }
        }
    }
}
