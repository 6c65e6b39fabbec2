import java.nio.file.Files;
import java.nio.file.Path;
import java.util.ArrayList;
import java.util.List;
import java.util.Set;
import java.util.TreeSet;
import java.util.regex.Matcher;
import java.util.regex.Pattern;

/** README.md: its examples are called and their answers found; its constants, methods, ranges and errors are the document's. */
final class ReadmeTest {
    private static final Due DUE = new Due();
    private static final int MOST_CALLS = 512;
    private static final String NEW = "RiverWords words = new RiverWords();";
    /** A call, its answer, and perhaps something that is only said. */
    private static final Pattern EXAMPLE = Pattern.compile("words\\.([a-z]+)(\\([^()]*\\)); *// (-?[0-9]+|'[LR]'|[A-Z]+)(: .*)?");
    private static final Pattern CALL = Pattern.compile("\\bwords\\.[a-z]+\\(");
    private static final Pattern CONSTANT = Pattern.compile("\\| `([A-Z]+)` \\| (-[0-9]+) \\| .+ \\|");
    private static final Pattern ARGUMENT = Pattern.compile("- `([a-z]+)`: (.+)");
    private static final Pattern RANGE = Pattern.compile("(?:the discriminant, from )?(-?[0-9]+) to (-?[0-9]+)\\b.*");
    private static final Pattern ERROR = Pattern.compile("`([A-Z]+)`");

    /** Each method in the document's order, the ranges of its arguments that are two numbers, and its errors in their order. */
    private static final String[][] METHODS = {
        {"RiverWords()", "", "-"},
        {"int letter(int code)", "code 32 126;", "OUTSIDE FULL"},
        {"int blank()", "", ""},
        {"int fault()", "", ""},
        {"int word()", "", "STATE FULL"},
        {"int road(int road, int what)", "what 0 9;", "UNKNOWN OUTSIDE"},
        {"int sign(int road, int place)", "", "UNKNOWN"},
        {"int table(int road, int what)", "what 0 3;", "UNKNOWN OUTSIDE"},
        {"int form(int road, int what)", "what 0 4;", "UNKNOWN OUTSIDE STATE"},
        {"int end(int road, int what)", "what 0 1;", "UNKNOWN OUTSIDE"},
        {"int alike(int one, int other)", "", "UNKNOWN"},
        {"int cross(int one, int other)", "", "UNKNOWN STATE"},
        {"int turn(int road, int by)", "", "UNKNOWN OUTSIDE"},
        {"int change(int road, int how)", "how 0 2;", "UNKNOWN OUTSIDE"},
        {"int join(int one, int other)", "", "UNKNOWN STATE FULL"},
        {"int times(int road, int n)", "n 2 5;", "UNKNOWN OUTSIDE STATE FULL"},
        {"int cut(int p, int q)", "p 1 99;q 1 99;", "OUTSIDE STATE FULL"},
        {"int drop()", "", "STATE"},
        {"int river(int d)", "d 5 900;", "OUTSIDE"},
        {"int simple(int form, int what)", "what 0 7;", "UNKNOWN OUTSIDE"},
        {"int cycle(int cycle, int what)", "what 0 4;", "UNKNOWN OUTSIDE"},
        {"int step(int cycle, int place)", "", "UNKNOWN"},
        {"int trace(int cycle, int m)", "m 2 1000;", "UNKNOWN OUTSIDE"},
        {"int flow(int a, int b, int c, boolean told)", "a -999 999;b -999 999;c -999 999;", "STATE OUTSIDE"},
        {"int lay(int cycle)", "", "UNKNOWN STATE FULL"},
        {"int where(int road)", "", "UNKNOWN STATE"},
        {"int drawn(int times, int seed, int what)", "times 1 40;seed 0 2147483647;what 0 3;", "OUTSIDE"},
        {"int count(int what)", "what 0 6;", "OUTSIDE"},
        {"long digest()", "", ""}};

    /** What README.md says under the heading of a method: its items, each in one line. */
    private record Section(String signature, List<String> items) {
    }

    public static void main(String[] args) throws Exception {
        List<String> lines = Files.readAllLines(Path.of("README.md"));
        examples(lines);
        constants(lines);
        methods(sections(lines));
        said(String.join(" ", lines));
        DUE.finish("ReadmeTest");
    }

    private static void same(String what, String got, String want) {
        boolean same = got.equals(want);
        DUE.due(what + (same ? "" : " is " + got + ", due is " + want), same ? 1 : 0, 1);
    }

    /** Every line of every example is understood and called; together they show each method and each constant. */
    private static void examples(List<String> lines) {
        Set<String> shown = new TreeSet<>();
        RiverWords words = null;
        boolean inside = false;
        int calls = 0;
        for (int i = 0; i < lines.size(); i++) {
            String line = lines.get(i);
            if (line.startsWith("```")) {
                inside = line.equals("```java");
                words = null;
            } else if (line.equals(NEW)) {
                DUE.due("line " + (i + 1) + " begins an example", inside && words == null ? 1 : 0, 1);
                words = new RiverWords();
                calls = 0;
            } else if (inside || CALL.matcher(line).find()) {
                DUE.due("line " + (i + 1) + " is a call in an example", inside && words != null ? 1 : 0, 1);
                DUE.due("line " + (i + 1) + " is call " + ++calls, calls <= MOST_CALLS ? 1 : 0, 1);
                example(words, i + 1, line, shown);
            }
        }
        everything(shown);
    }

    private static void example(RiverWords words, int number, String line, Set<String> shown) {
        Matcher parts = EXAMPLE.matcher(line);
        if (words == null || !parts.matches()) {
            DUE.due("line " + number + " is understood: " + line, 0, 1);
            return;
        }
        String answer = parts.group(3);
        shown.add(parts.group(1));
        shown.add(answer);
        DUE.due("line " + number + ": " + line, Spoken.ask(words, parts.group(1) + parts.group(2)), Spoken.number(answer));
    }

    private static void everything(Set<String> shown) {
        for (String[] method : METHODS) {
            String name = method[0].substring(method[0].indexOf(' ') + 1, method[0].indexOf('('));
            DUE.due("an example shows " + name, method[0].indexOf(' ') < 0 || shown.contains(name) ? 1 : 0, 1);
        }
        for (String name : new String[] {"NONE", "UNKNOWN", "OUTSIDE", "STATE", "FULL", "'L'", "'R'"}) {
            DUE.due("an example answers " + name, shown.contains(name) ? 1 : 0, 1);
        }
    }

    private static void constants(List<String> lines) throws ReflectiveOperationException {
        StringBuilder names = new StringBuilder();
        for (String line : lines) {
            Matcher parts = CONSTANT.matcher(line);
            if (parts.matches()) {
                names.append(parts.group(1)).append(' ');
                long value = Long.parseLong(parts.group(2));
                DUE.due("README.md's " + parts.group(1), value, RiverWords.class.getField(parts.group(1)).getInt(null));
                DUE.due("README.md's " + parts.group(1) + " is the document's", value, Spoken.number(parts.group(1)));
            }
        }
        same("the constants", names.toString(), "NONE UNKNOWN OUTSIDE STATE FULL ");
    }

    private static List<Section> sections(List<String> lines) {
        List<Section> sections = new ArrayList<>();
        boolean open = false;
        for (String line : lines) {
            if (line.startsWith("#")) {
                open = line.startsWith("#### `");
                if (open) {
                    sections.add(new Section(line.substring(6, line.length() - 1), new ArrayList<>()));
                }
            } else if (open) {
                addItem(sections.get(sections.size() - 1).items(), line);
            }
        }
        return sections;
    }

    private static void addItem(List<String> items, String line) {
        if (line.startsWith("- ")) {
            items.add(line);
        } else if (line.startsWith("  ") && !items.isEmpty()) {
            items.set(items.size() - 1, items.get(items.size() - 1) + line.substring(1));
        }
    }

    private static void methods(List<Section> sections) {
        DUE.due("how many methods README.md has", sections.size(), METHODS.length);
        for (int i = 0; i < sections.size() && i < METHODS.length; i++) {
            Section section = sections.get(i);
            same("method " + i, section.signature(), METHODS[i][0]);
            if (!METHODS[i][2].equals("-")) {
                arguments(section, METHODS[i][1]);
                returnsAndErrors(section, METHODS[i][2]);
            }
        }
    }

    /** Each argument in its order, and the ranges of those that have two numbers. */
    private static void arguments(Section section, String wantRanges) {
        StringBuilder names = new StringBuilder();
        StringBuilder ranges = new StringBuilder();
        for (String item : section.items()) {
            Matcher argument = ARGUMENT.matcher(item);
            if (argument.matches()) {
                names.append(names.length() == 0 ? "" : ", ").append(argument.group(1));
                String said = section.signature() + " says from where to where " + argument.group(1) + " goes";
                DUE.due(said, argument.group(2).contains(" to ") || argument.group(2).startsWith("true ") ? 1 : 0, 1);
                Matcher range = RANGE.matcher(argument.group(2));
                if (range.matches()) {
                    ranges.append(argument.group(1)).append(' ').append(range.group(1)).append(' ').append(range.group(2)).append(';');
                }
            }
        }
        String signature = section.signature();
        String inside = signature.substring(signature.indexOf('(') + 1, signature.length() - 1);
        same("the arguments of " + signature, names.toString(), inside.replaceAll("(int|boolean) ", ""));
        same("the ranges of " + signature, ranges.toString(), wantRanges);
    }

    private static void returnsAndErrors(Section section, String wantErrors) {
        int size = section.items().size();
        boolean enough = size >= 2 && section.items().get(size - 2).startsWith("- Returns ") && section.items().get(size - 1).startsWith("- Errors: ");
        DUE.due(section.signature() + " ends with what it returns and its errors", enough ? 1 : 0, 1);
        if (!enough) {
            return;
        }
        StringBuilder errors = new StringBuilder();
        Matcher error = ERROR.matcher(section.items().get(size - 1));
        while (error.find()) {
            errors.append(errors.length() == 0 ? "" : " ").append(error.group(1));
        }
        same("the errors of " + section.signature(), errors.toString(), wantErrors);
        boolean none = section.items().get(size - 1).equals("- Errors: none.");
        DUE.due(section.signature() + " says that it has no errors", none ? 1 : 0, wantErrors.isEmpty() ? 1 : 0);
    }

    private static void said(String text) {
        for (String sentence : new String[] {"An object is used for at most 512 calls after it has been made", "## How to run the tests", ".ci/run"}) {
            DUE.due("README.md says: " + sentence, text.contains(sentence) ? 1 : 0, 1);
        }
    }
}
