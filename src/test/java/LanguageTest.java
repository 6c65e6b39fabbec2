import java.lang.management.ManagementFactory;
import java.lang.reflect.Constructor;
import java.lang.reflect.Field;
import java.lang.reflect.Method;
import java.lang.reflect.Modifier;
import java.nio.file.Files;
import java.nio.file.Path;
import java.util.ArrayList;
import java.util.Arrays;
import java.util.List;
import java.util.Set;
import java.util.TreeSet;
import java.util.regex.Pattern;
import java.util.stream.Collectors;

/** The rules of the language: the face, the words that are ruled out, the room, and that no call throws. */
final class LanguageTest {
    private static final Due DUE = new Due();
    private static final String[] FACE = {
        "int letter(int)", "int blank()", "int fault()", "int word()", "int road(int,int)", "int sign(int,int)",
        "int table(int,int)", "int form(int,int)", "int end(int,int)", "int alike(int,int)", "int cross(int,int)",
        "int turn(int,int)", "int change(int,int)", "int join(int,int)", "int times(int,int)", "int cut(int,int)",
        "int drop()", "int river(int)", "int simple(int,int)", "int cycle(int,int)", "int step(int,int)",
        "int trace(int,int)", "int flow(int,int,int,boolean)", "int lay(int)", "int where(int)",
        "int drawn(int,int,int)", "int count(int)", "long digest()"};
    /** Some of these the rules allow, but the program does without them, so that no case has to be told from another. */
    private static final String[] RULED_OUT = {
        "\\b(throw|throws|try|catch|synchronized|assert|import|package|native|protected)\\b", "->", "::",
        "\\b(equals|hashCode|toString|System|Thread|Random|File)\\b", "Exact\\b", "\\b(Object|Exception|Error)\\b", "\"", "while"};
    /** With the calls that come before, an object gets no more than 512. */
    private static final int CALLS = 470;

    private static final Set<Class<?>> STATIC_TYPES = Set.of(int.class, long.class, boolean.class, char.class, String.class, int[].class,
        long[].class, char[].class, byte[].class);
    private static final int MOST_CLASSES = 12, MOST_FIELDS = 20, MOST_PARAMETERS = 7, MOST_LINES = 60;

    public static void main(String[] args) throws Exception {
        String source = args.length > 0 ? args[0] : "src/main/java/RiverWords.java";
        constants();
        face();
        names();
        shapes();
        source(source);
        lengths(source);
        room();
        neverThrows();
        DUE.finish("LanguageTest");
    }

    private static void constants() {
        DUE.due("NONE", RiverWords.NONE, Due.NONE);
        DUE.due("UNKNOWN", RiverWords.UNKNOWN, Due.UNKNOWN);
        DUE.due("OUTSIDE", RiverWords.OUTSIDE, Due.OUTSIDE);
        DUE.due("STATE", RiverWords.STATE, Due.STATE);
        DUE.due("FULL", RiverWords.FULL, Due.FULL);
    }

    private static String signature(Method method) {
        String types = Arrays.stream(method.getParameterTypes()).map(Class::getName).collect(Collectors.joining(","));
        return method.getReturnType().getName() + " " + method.getName() + "(" + types + ")";
    }

    private static void same(String what, Set<String> got, Set<String> want) {
        boolean same = got.equals(want);
        DUE.due(what + ": " + (same ? "" : got), same ? 1 : 0, 1);
    }

    private static void face() {
        Set<String> methods = new TreeSet<>();
        for (Method method : RiverWords.class.getDeclaredMethods()) {
            if (!Modifier.isPrivate(method.getModifiers()) && !method.isSynthetic()) {
                methods.add(signature(method));
                DUE.due(method + " is public", method.getModifiers(), Modifier.PUBLIC);
            }
        }
        same("the methods", methods, new TreeSet<>(List.of(FACE)));
        Set<String> fields = new TreeSet<>();
        for (Field field : RiverWords.class.getDeclaredFields()) {
            if (!Modifier.isPrivate(field.getModifiers())) {
                fields.add(Modifier.toString(field.getModifiers()) + " " + field.getType() + " " + field.getName());
            }
        }
        Set<String> constants = new TreeSet<>();
        for (String name : new String[] {"NONE", "UNKNOWN", "OUTSIDE", "STATE", "FULL"}) {
            constants.add("public static final int " + name);
        }
        same("the constants", fields, constants);
        Constructor<?>[] constructors = RiverWords.class.getDeclaredConstructors();
        DUE.due("the constructors", constructors.length, 1);
        DUE.due("the constructor is public and takes nothing", constructors[0].getParameterCount()
            + constructors[0].getModifiers(), Modifier.PUBLIC);
        DUE.due("the class is public and final", RiverWords.class.getModifiers(), Modifier.PUBLIC | Modifier.FINAL);
    }

    /** No private method bears the name of a public one, and the classes inside are static. */
    private static void names() {
        Set<String> open = new TreeSet<>();
        for (String signature : FACE) {
            open.add(signature.substring(signature.indexOf(' ') + 1, signature.indexOf('(')));
        }
        for (Method method : RiverWords.class.getDeclaredMethods()) {
            boolean hidden = Modifier.isPrivate(method.getModifiers());
            DUE.due("private " + method.getName(), hidden && open.contains(method.getName()) ? 1 : 0, 0);
        }
        for (Class<?> inside : RiverWords.class.getDeclaredClasses()) {
            DUE.due(inside + " is static", Modifier.isStatic(inside.getModifiers()) ? 1 : 0, 1);
            for (Method method : inside.getDeclaredMethods()) {
                DUE.due(inside + " " + method.getName(), open.contains(method.getName()) ? 1 : 0, 0);
            }
        }
    }

    private static List<Class<?>> classes() {
        List<Class<?>> classes = new ArrayList<>(List.of(RiverWords.class));
        classes.addAll(List.of(RiverWords.class.getDeclaredClasses()));
        return classes;
    }

    /** How many classes, fields and parameters there are, and that nothing static can hold a state. */
    private static void shapes() {
        DUE.due("the number of classes", classes().size() <= MOST_CLASSES ? 1 : 0, 1);
        for (Class<?> one : classes()) {
            int fields = 0;
            for (Field field : one.getDeclaredFields()) {
                boolean isStatic = Modifier.isStatic(field.getModifiers());
                fields += isStatic ? 0 : 1;
                DUE.due(field + " holds no state", isStatic && !STATIC_TYPES.contains(field.getType()) ? 1 : 0, 0);
                DUE.due(field + " is final if it is static", isStatic && !Modifier.isFinal(field.getModifiers()) ? 1 : 0, 0);
            }
            DUE.due("the fields of " + one, fields <= MOST_FIELDS ? 1 : 0, 1);
            for (Method method : one.getDeclaredMethods()) {
                DUE.due("the parameters of " + method, method.getParameterCount() <= MOST_PARAMETERS ? 1 : 0, 1);
            }
            DUE.due("no class is inside " + one, one != RiverWords.class && one.getDeclaredClasses().length > 0 ? 1 : 0, 0);
        }
    }

    /** A method begins with a line that opens it, and ends with a bracket as far to the right. */
    private static void lengths(String file) throws Exception {
        List<String> lines = Files.readAllLines(Path.of(file));
        int methods = 0;
        for (int i = 0; i < lines.size(); i++) {
            if (lines.get(i).matches("(    |        )[A-Za-z][A-Za-z\\[\\]<> ]*\\([^()]*\\) \\{")) {
                String end = lines.get(i).replaceAll("\\S.*", "}");
                int size = lines.subList(i, lines.size()).indexOf(end) + 1;
                DUE.due("the lines of " + lines.get(i).trim(), size > 0 && size <= MOST_LINES ? 1 : 0, 1);
                methods++;
            }
        }
        DUE.due("methods were found", methods >= FACE.length ? 1 : 0, 1);
    }

    private static void source(String file) throws Exception {
        String text = Files.readString(Path.of(file));
        String code = text.replaceAll("(?s)/\\*.*?\\*/", "").replaceAll("//.*", "");
        for (String ruledOut : RULED_OUT) {
            DUE.due("the source has " + ruledOut, Pattern.compile(ruledOut).matcher(code).find() ? 1 : 0, 0);
        }
        DUE.due("signs above 127", text.chars().filter(sign -> sign > 126).count(), 0);
    }

    private interface Call {
        long answer(RiverWords words, int number);
    }

    /** What a run makes stays far below the room of 600,000 objects and 7.3 million fields and elements. */
    private static void room() {
        com.sun.management.ThreadMXBean threads = (com.sun.management.ThreadMXBean) ManagementFactory.getThreadMXBean();
        Call[] calls = {(words, n) -> words.digest(), (words, n) -> words.river(n % 2 == 0 ? 889 : 897),
            (words, n) -> words.drawn(40, n, 2), (words, n) -> words.cross(0, 1), (words, n) -> words.flow(1, 1, -224, true),
            (words, n) -> words.trace(0, 997), (words, n) -> words.change(0, n % 3),
            (words, n) -> n % 2 == 0 ? words.cut(34, 55) : words.drop()};
        for (int call = 0; call < calls.length; call++) {
            RiverWords words = Due.with("L9R9LR", "LRLRLRLRLRLRLRLRLRLR", "L9LR", "LR", "R9L3");
            words.river(897);
            long before = threads.getCurrentThreadAllocatedBytes();
            for (int n = 0; n < CALLS; n++) {
                calls[call].answer(words, n);
            }
            long made = threads.getCurrentThreadAllocatedBytes() - before;
            DUE.due("call " + call + " made " + made + " bytes", made < 200000 ? 1 : 0, 1);
        }
    }

    private static final int[] WILD = {Integer.MIN_VALUE, Integer.MIN_VALUE + 1, -2000000001, -1000, -999, -1, 0, 1, 2, 5, 6, 7, 8,
        19, 20, 21, 31, 32, 76, 82, 99, 100, 319, 320, 888, 889, 999, 1000, Integer.MAX_VALUE - 1, Integer.MAX_VALUE};

    /** Every call with every pair of wild arguments, in several states, answers something. */
    private static void neverThrows() {
        int ended = 0;
        for (Edge.State state : Edge.STATES) {
            for (int one : WILD) {
                RiverWords words = state.start().make();
                for (int other : WILD) {
                    wildCalls(state.start().make(), one, other);
                    ended++;
                }
                for (int round = 0; round < 10; round++) {
                    wildCalls(words, one, WILD[round]);
                }
                words.digest();
            }
        }
        DUE.due("the rounds that ended", ended, Edge.STATES.size() * WILD.length * WILD.length);
    }

    private static long wildCalls(RiverWords words, int one, int other) {
        long sum = words.letter(one) + words.fault() + words.word() + words.blank() + words.road(one, other) + words.sign(one, other);
        sum += words.table(one, other) + words.form(one, other) + words.end(one, other) + words.alike(one, other);
        sum += words.cross(one, other) + words.turn(one, other) + words.change(one, other) + words.join(one, other);
        sum += words.times(one, other) + words.cut(one, other) + words.simple(one, other) + words.cycle(one, other);
        sum += words.step(one, other) + words.trace(one, other) + words.lay(one) + words.where(one) + words.count(one);
        sum += words.flow(one, other, one, true) + words.flow(one, one, other, false) + words.drawn(one, other, one % 4);
        sum += words.drawn(one, other, 2) + words.river(one) + words.river(other);
        return sum;
    }
}
