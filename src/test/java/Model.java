import java.util.ArrayList;
import java.util.List;

/**
 * The document once more, over strings and lists and as near to its words as can be, to compare RiverWords with.
 * It shares no code and no way of holding the state with RiverWords.
 */
final class Model {
    private static final int NONE = Due.NONE, UNKNOWN = Due.UNKNOWN, OUTSIDE = Due.OUTSIDE, STATE = Due.STATE, FULL = Due.FULL;

    private final List<String> roads = new ArrayList<>();
    private final List<int[]> forms = new ArrayList<>();
    private final List<List<Integer>> cycles = new ArrayList<>();
    private String page = "";
    private int readings;
    private int riverD;

    Model(String... texts) {
        for (String text : texts) {
            page = text;
            word();
        }
    }

    private boolean noRoad(int road) {
        return road < 0 || road >= roads.size();
    }

    private int add(String word) {
        if (word.length() > 20) {
            return STATE;
        }
        if (roads.size() == 6) {
            return FULL;
        }
        roads.add(word);
        return roads.size() - 1;
    }

    int letter(int code) {
        if (code < 32 || code > 126) {
            return OUTSIDE;
        }
        if (page.length() == 20) {
            return FULL;
        }
        page += (char) code;
        return page.length();
    }

    int blank() {
        int length = page.length();
        page = "";
        return length;
    }

    private static String spelled(String text) {
        StringBuilder word = new StringBuilder();
        for (int i = 0; i < text.length(); i++) {
            char code = text.charAt(i);
            if (Character.isDigit(code)) {
                word.append(text.substring(i - 1, i).repeat(code - '0' - 1));
            } else {
                word.append(code);
            }
        }
        return word.toString();
    }

    private static boolean isText(String text) {
        return text.matches("([LR][2-9]?)+") && spelled(text).length() <= 20;
    }

    int fault() {
        for (int i = 0; i < page.length(); i++) {
            if (!isText(page.substring(0, i + 1))) {
                return i;
            }
        }
        return page.length();
    }

    int word() {
        if (!isText(page)) {
            return STATE;
        }
        int number = add(spelled(page));
        if (number >= 0) {
            page = "";
            readings++;
        }
        return number;
    }

    static String rotation(String word, int k) {
        return word.substring(k) + word.substring(0, k);
    }

    private static String least(String word) {
        String best = word;
        for (int k = 0; k < word.length(); k++) {
            if (rotation(word, k).compareTo(best) < 0) {
                best = rotation(word, k);
            }
        }
        return best;
    }

    private static int turnTo(String word, String other, int first) {
        for (int k = first; k <= word.length(); k++) {
            if (rotation(word, k).equals(other)) {
                return k;
            }
        }
        return NONE;
    }

    private static String reversal(String word) {
        return new StringBuilder(word).reverse().toString();
    }

    private static String complement(String word) {
        return word.replace('L', 'x').replace('R', 'L').replace('x', 'R');
    }

    private static boolean conjugate(String word, String other) {
        return least(word).equals(least(other));
    }

    private static boolean closed(String word) {
        return word.contains("L") && word.contains("R");
    }

    private static int occurrences(String word, char letter) {
        return (int) word.chars().filter(code -> code == letter).count();
    }

    private static long[] product(long[] one, long[] other, long m) {
        return new long[] {(one[0] * other[0] + one[1] * other[2]) % m, (one[0] * other[1] + one[1] * other[3]) % m,
            (one[2] * other[0] + one[3] * other[2]) % m, (one[2] * other[1] + one[3] * other[3]) % m};
    }

    private static long[] matrix(String word, long m) {
        long[] result = {1, 0, 0, 1};
        for (char letter : word.toCharArray()) {
            result = product(result, letter == 'L' ? new long[] {1, 0, 1, 1} : new long[] {1, 1, 0, 1}, m);
        }
        return result;
    }

    private static long traceOf(String word, long m) {
        long[] matrix = matrix(word, m);
        return (matrix[0] + matrix[3]) % m;
    }

    int road(int road, int what) {
        if (noRoad(road)) {
            return UNKNOWN;
        }
        String word = roads.get(road);
        switch (what) {
            case 0: return word.length();
            case 1: return occurrences(word, 'L');
            case 2: return occurrences(word, 'R');
            case 3: return turnTo(word, word, 1);
            case 4: return turnTo(word, least(word), 0);
            case 5: return (int) traceOf(word, Long.MAX_VALUE);
            case 6: return closed(word) ? 1 : 0;
            case 7: return conjugate(word, reversal(word)) ? 1 : 0;
            case 8: return conjugate(word, complement(word)) ? 1 : 0;
            case 9: return conjugate(word, reversal(complement(word))) ? 1 : 0;
            default: return OUTSIDE;
        }
    }

    int sign(int road, int place) {
        return noRoad(road) || place < 0 || place >= roads.get(road).length() ? UNKNOWN : roads.get(road).charAt(place);
    }

    int table(int road, int what) {
        if (noRoad(road)) {
            return UNKNOWN;
        }
        return what < 0 || what > 3 ? OUTSIDE : (int) matrix(roads.get(road), Long.MAX_VALUE)[what];
    }

    private static long divisor(long... numbers) {
        long largest = 1;
        for (long number : numbers) {
            largest = Math.max(largest, Math.abs(number));
        }
        for (long g = largest; g > 1; g--) {
            boolean all = true;
            for (long number : numbers) {
                all &= number % g == 0;
            }
            if (all) {
                return g;
            }
        }
        return 1;
    }

    private static long[] formOf(String word) {
        long[] matrix = matrix(word, Long.MAX_VALUE);
        long g = divisor(matrix[2], matrix[3] - matrix[0], matrix[1]);
        long a = matrix[2] / g;
        long b = (matrix[3] - matrix[0]) / g;
        long c = -matrix[1] / g;
        return new long[] {a, b, c, g, b * b - 4 * a * c};
    }

    int form(int road, int what) {
        if (noRoad(road)) {
            return UNKNOWN;
        }
        if (what < 0 || what > 4) {
            return OUTSIDE;
        }
        return closed(roads.get(road)) ? (int) formOf(roads.get(road))[what] : STATE;
    }

    int end(int road, int what) {
        if (noRoad(road)) {
            return UNKNOWN;
        }
        if (what < 0 || what > 1) {
            return OUTSIDE;
        }
        long[] matrix = matrix(roads.get(road), Long.MAX_VALUE);
        return (int) (matrix[2 * what] + matrix[2 * what + 1]);
    }

    int alike(int one, int other) {
        return noRoad(one) || noRoad(other) ? UNKNOWN : turnTo(roads.get(one), roads.get(other), 0);
    }

    /** The letters before an index, the nearest one first, far enough to tell any two words apart. */
    private static String before(String word, int index) {
        return reversal(rotation(word, index)).repeat(1 + 800 / word.length()).substring(0, 800);
    }

    private static boolean crossesAt(String u, int i, String v, int j) {
        if (u.charAt(i) == v.charAt(j)) {
            return false;
        }
        String lefts = u.charAt(i) == 'L' ? before(u, i) : before(v, j);
        String rights = u.charAt(i) == 'L' ? before(v, j) : before(u, i);
        for (int k = 0; k < 800; k++) {
            if (lefts.charAt(k) != rights.charAt(k)) {
                return lefts.charAt(k) == 'R';
            }
        }
        throw new IllegalStateException(u + " and " + v + " never part");
    }

    static int crossings(String u, String v) {
        int found = 0;
        for (int i = 0; i < u.length(); i++) {
            for (int j = 0; j < v.length(); j++) {
                found += crossesAt(u, i, v, j) ? 1 : 0;
            }
        }
        return found;
    }

    int cross(int one, int other) {
        if (noRoad(one) || noRoad(other)) {
            return UNKNOWN;
        }
        boolean closed = closed(roads.get(one)) && closed(roads.get(other));
        return closed ? crossings(roads.get(one), roads.get(other)) : STATE;
    }

    int turn(int road, int by) {
        if (noRoad(road)) {
            return UNKNOWN;
        }
        if (by < 0 || by > roads.get(road).length() - 1) {
            return OUTSIDE;
        }
        roads.set(road, rotation(roads.get(road), by));
        return road(road, 3);
    }

    int change(int road, int how) {
        if (noRoad(road)) {
            return UNKNOWN;
        }
        if (how < 0 || how > 2) {
            return OUTSIDE;
        }
        String word = roads.get(road);
        roads.set(road, how == 0 ? reversal(word) : how == 1 ? complement(word) : least(word));
        return road(road, 5);
    }

    int join(int one, int other) {
        return noRoad(one) || noRoad(other) ? UNKNOWN : add(roads.get(one) + roads.get(other));
    }

    int times(int road, int n) {
        if (noRoad(road)) {
            return UNKNOWN;
        }
        return n < 2 || n > 5 ? OUTSIDE : add(roads.get(road).repeat(n));
    }

    int cut(int p, int q) {
        if (p < 1 || p > 99 || q < 1 || q > 99 || divisor(p, q) > 1 || (p == 1 && q == 1)) {
            return OUTSIDE;
        }
        String word = "";
        int above = p;
        int below = q;
        while (above != below) {
            if (above > below) {
                word += "R";
                above -= below;
            } else {
                word += "L";
                below -= above;
            }
        }
        return add(word);
    }

    int drop() {
        if (roads.isEmpty()) {
            return STATE;
        }
        roads.remove(roads.size() - 1);
        return roads.size();
    }

    int river(int d) {
        int root = (int) Math.sqrt(Math.max(0, d));
        if (d < 5 || d > 900 || root * root == d || (d % 4 != 0 && d % 4 != 1)) {
            return OUTSIDE;
        }
        riverD = d;
        forms.clear();
        for (int b = -30; b <= 30; b++) {
            for (int a = 1; a <= 900; a++) {
                addForm(a, b, d);
            }
        }
        addCycles();
        return forms.size();
    }

    private void addForm(int a, int b, int d) {
        for (int c = -1; b * b - 4 * a * c <= d; c--) {
            if (b * b - 4 * a * c == d && divisorOfSmall(a, b, c) == 1) {
                forms.add(new int[] {a, b, c});
            }
        }
    }

    private static int divisorOfSmall(int a, int b, int c) {
        for (int g = 2; g <= 1000; g++) {
            if (a % g == 0 && b % g == 0 && c % g == 0) {
                return g;
            }
        }
        return 1;
    }

    private int number(long a, long b, long c) {
        for (int i = 0; i < forms.size(); i++) {
            int[] form = forms.get(i);
            if (form[0] == a && form[1] == b && form[2] == c) {
                return i;
            }
        }
        return NONE;
    }

    private boolean isLeft(int form) {
        return forms.get(form)[0] + forms.get(form)[1] + forms.get(form)[2] > 0;
    }

    private int next(int form) {
        int a = forms.get(form)[0];
        int b = forms.get(form)[1];
        int c = forms.get(form)[2];
        return isLeft(form) ? number(a + b + c, b + 2 * c, c) : number(a, b + 2 * a, a + b + c);
    }

    private void addCycles() {
        cycles.clear();
        for (int form = 0; form < forms.size(); form++) {
            if (cycleOf(form) != NONE) {
                continue;
            }
            List<Integer> cycle = new ArrayList<>();
            cycle.add(form);
            for (int at = next(form); at != form; at = next(at)) {
                cycle.add(at);
            }
            cycles.add(cycle);
        }
    }

    private int cycleOf(int form) {
        for (int cycle = 0; cycle < cycles.size(); cycle++) {
            if (cycles.get(cycle).contains(form)) {
                return cycle;
            }
        }
        return NONE;
    }

    private int reversed(int form) {
        return number(forms.get(form)[0], -forms.get(form)[1], forms.get(form)[2]);
    }

    private int opposite(int form) {
        return number(-forms.get(form)[2], -forms.get(form)[1], -forms.get(form)[0]);
    }

    private boolean noCycle(int cycle) {
        return cycle < 0 || cycle >= cycles.size();
    }

    private String cycleWord(int cycle) {
        StringBuilder word = new StringBuilder();
        for (int form : cycles.get(cycle)) {
            word.append(isLeft(form) ? 'L' : 'R');
        }
        return word.toString();
    }

    int simple(int form, int what) {
        if (form < 0 || form >= forms.size()) {
            return UNKNOWN;
        }
        switch (what) {
            case 0: case 1: case 2: return forms.get(form)[what];
            case 3: return cycleOf(form);
            case 4: return next(form);
            case 5: return isLeft(form) ? 'L' : 'R';
            case 6: return reversed(form);
            case 7: return opposite(form);
            default: return OUTSIDE;
        }
    }

    int cycle(int cycle, int what) {
        if (noCycle(cycle)) {
            return UNKNOWN;
        }
        int lowest = cycles.get(cycle).get(0);
        switch (what) {
            case 0: return lowest;
            case 1: return cycles.get(cycle).size();
            case 2: return occurrences(cycleWord(cycle), 'L');
            case 3: return cycleOf(reversed(lowest));
            case 4: return cycleOf(opposite(lowest));
            default: return OUTSIDE;
        }
    }

    int step(int cycle, int place) {
        return noCycle(cycle) || place < 0 || place >= cycles.get(cycle).size() ? UNKNOWN : cycleWord(cycle).charAt(place);
    }

    int trace(int cycle, int m) {
        if (noCycle(cycle)) {
            return UNKNOWN;
        }
        return m < 2 || m > 1000 ? OUTSIDE : (int) traceOf(cycleWord(cycle), m);
    }

    private static boolean wide(int number) {
        return number < -999 || number > 999;
    }

    int flow(int startA, int startB, int startC, boolean told) {
        if (forms.isEmpty()) {
            return STATE;
        }
        if (wide(startA) || wide(startB) || wide(startC) || startB * startB - 4 * startA * startC != riverD
            || divisorOfSmall(startA, startB, startC) > 1) {
            return OUTSIDE;
        }
        int[] triple = {startA, startB, startC};
        int steps = 0;
        while ((triple[0] > 0 && triple[2] > 0) || (triple[0] < 0 && triple[2] < 0)) {
            triple = flowed(triple);
            steps++;
        }
        if (triple[0] < 0) {
            triple = new int[] {triple[2], -triple[1], triple[0]};
        }
        return told ? steps : number(triple[0], triple[1], triple[2]);
    }

    private static int[] flowed(int[] triple) {
        int a = triple[0];
        int b = triple[1];
        int c = triple[2];
        int t = (a < 0 && b > 0) || (a > 0 && b < 0) ? 1 : -1;
        int m = a + c + t * b;
        return Math.abs(a) >= Math.abs(c) ? new int[] {m, b + 2 * t * c, c} : new int[] {a, b + 2 * t * a, m};
    }

    int lay(int cycle) {
        return noCycle(cycle) ? UNKNOWN : add(cycleWord(cycle));
    }

    int where(int road) {
        if (noRoad(road)) {
            return UNKNOWN;
        }
        if (!closed(roads.get(road)) || forms.isEmpty()) {
            return STATE;
        }
        long[] form = formOf(roads.get(road));
        return number(form[0], form[1], form[2]);
    }

    int drawn(int times, int seed, int what) {
        if (times < 1 || times > 40 || seed < 0 || what < 0 || what > 3) {
            return OUTSIDE;
        }
        java.math.BigInteger s = java.math.BigInteger.valueOf(seed);
        List<String> words = new ArrayList<>();
        for (int n = 0; n < times; n++) {
            String word = "";
            for (int place = 0; place < 8; place++) {
                s = s.multiply(java.math.BigInteger.valueOf(1103515245)).add(java.math.BigInteger.valueOf(12345))
                    .mod(java.math.BigInteger.ONE.shiftLeft(31));
                word += s.testBit(16) ? "R" : "L";
            }
            words.add(word);
        }
        return what == 3 ? s.intValueExact() : drawnSum(words, what);
    }

    private static int drawnSum(List<String> words, int what) {
        int sum = 0;
        for (int n = 0; n < words.size(); n++) {
            if (!closed(words.get(n))) {
                continue;
            }
            if (what == 2) {
                sum += n > 0 && closed(words.get(n - 1)) ? crossings(words.get(n - 1), words.get(n)) : 0;
            } else {
                sum += what == 0 ? 1 : (int) traceOf(words.get(n), Long.MAX_VALUE);
            }
        }
        return sum;
    }

    int count(int what) {
        switch (what) {
            case 0: return roads.size();
            case 1: return (int) roads.stream().filter(Model::closed).count();
            case 2: return (int) roads.stream().map(Model::least).distinct().count();
            case 3: return page.length();
            case 4: return readings;
            case 5: return forms.size();
            case 6: return cycles.size();
            default: return OUTSIDE;
        }
    }

    long digest() {
        List<Integer> numbers = new ArrayList<>();
        for (int road = 0; road < roads.size(); road++) {
            digestRoad(numbers, road);
        }
        for (int i = 0; i < roads.size(); i++) {
            for (int j = i; j < roads.size(); j++) {
                if (closed(roads.get(i)) && closed(roads.get(j))) {
                    numbers.add(cross(i, j));
                }
            }
        }
        digestRiver(numbers);
        for (char code : page.toCharArray()) {
            numbers.add((int) code);
        }
        for (int what = 0; what <= 6; what++) {
            numbers.add(count(what));
        }
        long h = 1549;
        for (int v : numbers) {
            h = 31 * h + v;
        }
        return h;
    }

    private void digestRoad(List<Integer> numbers, int road) {
        for (int what = 0; what <= 9; what++) {
            numbers.add(road(road, what));
        }
        for (int place = 0; place < roads.get(road).length(); place++) {
            numbers.add(sign(road, place));
        }
        for (int what = 0; what <= 3; what++) {
            numbers.add(table(road, what));
        }
        numbers.add(end(road, 0));
        numbers.add(end(road, 1));
        if (closed(roads.get(road))) {
            for (int what = 0; what <= 4; what++) {
                numbers.add(form(road, what));
            }
        }
    }

    private void digestRiver(List<Integer> numbers) {
        for (int form = 0; form < forms.size(); form++) {
            for (int what = 0; what <= 7; what++) {
                numbers.add(simple(form, what));
            }
        }
        for (int cycle = 0; cycle < cycles.size(); cycle++) {
            for (int what = 0; what <= 4; what++) {
                numbers.add(cycle(cycle, what));
            }
            numbers.add(trace(cycle, 997));
        }
    }

    /** The letters of a road. */
    String letters(int road) {
        return roads.get(road);
    }
}
