import java.io.IOException;
import java.lang.reflect.Method;
import java.lang.reflect.Modifier;
import java.nio.file.Files;
import java.nio.file.Path;
import java.util.ArrayList;
import java.util.HashMap;
import java.util.List;
import java.util.Map;
import java.util.Set;
import java.util.TreeSet;
import java.util.regex.Matcher;
import java.util.regex.Pattern;

/** README.md: its calls answer what stands behind them, and it tells of each public method in the document's words. */
final class ReadmeTest {
    private static final Path README = Path.of("README.md");
    private static final Path DOCUMENT = Path.of("../shared/DOC.md");
    private static final String NEW_OBJECT = "KeyAtlas atlas = new KeyAtlas();";
    private static final Pattern CALL = Pattern.compile(
            "(?:int (\\w+) = )?atlas\\.(\\w+)\\(([^)]*)\\); +// (?:throws (\\w+)|(-?\\d+|NONE))(?:: .*)?");

    private final Runs runs = new Runs();
    private final Map<String, String> named = new HashMap<>();
    private final Set<String> called = new TreeSet<>();
    private KeyAtlas atlas;

    public static void main(String[] args) throws IOException {
        ReadmeTest test = new ReadmeTest();
        List<String> lines = Files.readAllLines(README);
        test.makeCalls(lines);
        for (Method method : KeyAtlas.class.getDeclaredMethods()) {
            if (Modifier.isPublic(method.getModifiers())) {
                test.checkMethod(method, section(lines, "### " + method.getName()));
            }
        }
        test.checkNamed("the constructor", section(lines, "### KeyAtlas"), "`new KeyAtlas()`");
        test.checkNamed("how the tests are run", section(lines, "## Tests"), "```sh\n.ci/run\n```");
        test.checkOps(lines);
        if (Files.exists(DOCUMENT)) {
            test.checkWords(lines, oneSpaced(Files.readString(DOCUMENT)));
        }
        test.runs.end();
    }

    private void makeCalls(List<String> lines) {
        boolean isJava = false;
        for (String line : lines) {
            if (line.startsWith("```")) {
                isJava = line.equals("```java");
            } else if (isJava && line.equals(NEW_OBJECT)) {
                atlas = new KeyAtlas();
                named.clear();
            } else if (isJava) {
                makeCall(line);
            }
        }
    }

    private void makeCall(String line) {
        Matcher call = CALL.matcher(line);
        runs.due("README has a call with its answer: " + line, call.matches(), true);
        List<String> words = new ArrayList<>();
        words.add(call.group(2));
        for (String word : call.group(3).split(", ")) {
            words.add(named.getOrDefault(word, word));
        }
        String got = Runs.told(atlas, words.toArray(new String[0]));
        runs.due("README: " + line, got, call.group(4) != null ? "!" + call.group(4) : call.group(5));
        if (call.group(1) != null) {
            named.put(call.group(1), got);
        }
        called.add(call.group(2) + (call.group(4) != null ? " throws " + call.group(4) : ""));
    }

    /** What stands under a heading, up to the next one. */
    private static String section(List<String> lines, String heading) {
        StringBuilder text = new StringBuilder();
        boolean isIn = false;
        for (String line : lines) {
            if (line.startsWith("## ") || line.startsWith("### ")) {
                isIn = line.equals(heading);
            } else if (isIn) {
                text.append(line).append("\n");
            }
        }
        return text.toString();
    }

    private void checkNamed(String what, String section, String words) {
        runs.due("README tells " + what, section.contains(words), true);
    }

    private void checkMethod(Method method, String section) {
        String name = method.getName();
        runs.due("README calls " + name, called.contains(name), true);
        for (Class<?> thrown : method.getExceptionTypes()) {
            String due = thrown.getSimpleName();
            runs.due("README tells when " + name + " throws " + due, section.contains("\n- `" + due + "`: "), true);
        }
        for (Matcher told = Pattern.compile("\n- `(\\w+)`: ").matcher(section); told.find();) {
            boolean isThrown = List.of(method.getExceptionTypes()).stream()
                    .anyMatch(thrown -> thrown.getSimpleName().equals(told.group(1)));
            runs.due(name + " throws " + told.group(1) + ", as README tells", isThrown, true);
        }
    }

    private void checkOps(List<String> lines) {
        runs.due("README: ops of map", numbersOfTable(section(lines, "### map")), numbers(0, 25));
        runs.due("README: kinds of view", numbersOfTable(section(lines, "### view")), numbers(1, 4));
        runs.due("README: ops of move", numbersOfTable(section(lines, "### move")), numbers(0, 4));
        runs.due("README: kinds of make", numbersOfTable(section(lines, "### make")), numbers(0, 2));
    }

    private static List<Integer> numbers(int from, int to) {
        List<Integer> numbers = new ArrayList<>();
        for (int i = from; i <= to; i++) {
            numbers.add(i);
        }
        return numbers;
    }

    /** Of rows that begin with "| 3 ", "| 10, 11 " or "| 14 .. 17 ". */
    private static List<Integer> numbersOfTable(String section) {
        List<Integer> numbers = new ArrayList<>();
        Matcher row = Pattern.compile("\n\\| (\\d+)(?:(?:,| \\.\\.) (\\d+))?(?= )").matcher(section);
        while (row.find()) {
            int from = Integer.parseInt(row.group(1));
            numbers.addAll(numbers(from, row.group(2) == null ? from : Integer.parseInt(row.group(2))));
        }
        return numbers;
    }

    private void checkWords(List<String> lines, String document) {
        for (String words : quoted(lines)) {
            runs.due("README: words of the document: " + words, document.contains(words), true);
        }
        for (Method method : KeyAtlas.class.getDeclaredMethods()) {
            if (Modifier.isPublic(method.getModifiers())) {
                Matcher face = Pattern.compile("`(\\w+ " + method.getName() + "\\([^`]*)`: ").matcher(document);
                runs.due("the document promises " + method.getName(), face.find(), true);
                runs.due("README has its face", lines.contains(face.group(1)), true);
            }
        }
    }

    /** What stands behind a bar, and the last columns of the tables of ops. */
    private static List<String> quoted(List<String> lines) {
        List<String> all = new ArrayList<>();
        StringBuilder words = new StringBuilder();
        for (String line : lines) {
            if (line.startsWith("> ")) {
                words.append(line.substring(2)).append(" ");
            } else if (words.length() > 0) {
                all.add(oneSpaced(words.toString()));
                words.setLength(0);
            }
        }
        for (String heading : List.of("### map", "### view", "### move")) {
            Matcher row = Pattern.compile("\n\\| \\d.*\\| (.*) \\|").matcher(section(lines, heading));
            while (row.find()) {
                all.add(row.group(1));
            }
        }
        return all;
    }

    private static String oneSpaced(String text) {
        return text.replaceAll("\\s+", " ").strip();
    }
}
