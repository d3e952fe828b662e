import java.io.IOException;
import java.lang.reflect.Method;
import java.nio.file.Files;
import java.nio.file.Path;
import java.util.ArrayList;
import java.util.HashMap;
import java.util.List;
import java.util.Map;
import java.util.Set;
import java.util.TreeSet;
import java.util.regex.Matcher;
import java.util.regex.Pattern;

// README.md holds: each line of its examples answers as it says behind it, its table has each call of the
// face and no other one, and the tests it names are those there are. The first argument is the source's path.
public final class ReadmeTest {
    private static final Pattern NEW_SHOW = Pattern.compile("WaxShow show = new WaxShow\\(\\);");
    private static final Pattern EXAMPLE =
            Pattern.compile("(?:int (\\w+) = )?show\\.(\\w+)\\(([^)]*)\\);\\s*// (-?\\d+)(?::.*)?");
    private static final Pattern ROW = Pattern.compile("\\| `(\\w+)\\(([^)]*)\\)` \\|.*\\|");
    private static final Pattern TEST = Pattern.compile("`(\\w+Test)`");
    private static final int LEAST_EXAMPLES = 40;
    private static final Map<String, Integer> named = new HashMap<>();
    private static final Set<String> shownCalls = new TreeSet<>();
    private static Show show = new Show();
    private static int examples = 0;

    public static void main(String[] args) throws IOException {
        Show.sentence("README.md is found by the path of the source");
        if (args.length == 0) {
            Show.complain("no path is given");
            Show.end();
            return;
        }
        Path root = Path.of(args[0]).toAbsolutePath().getParent().getParent().getParent().getParent();
        List<String> lines = Files.readAllLines(root.resolve("README.md"));
        examples(lines);
        table(lines);
        tests(lines, root);
        Show.end();
    }

    // ---- examples

    private static void examples(List<String> lines) {
        Show.sentence("README.md: the examples answer as they say");
        boolean inside = false;
        for (String line : lines) {
            if (line.startsWith("```")) {
                inside = line.equals("```java");
            } else if (inside) {
                exampleLine(line.trim());
            }
        }
        if (examples < LEAST_EXAMPLES) {
            Show.complain("there are no more than " + examples + " examples");
        }
        Show.sentence("README.md: each call is in an example");
        for (String call : faceWithCounts()) {
            String name = call.substring(0, call.indexOf(' '));
            // the digest says nothing to a reader
            if (!shownCalls.contains(name) && !name.equals("digest")) {
                Show.complain(name + " is in no example");
            }
        }
    }

    private static void exampleLine(String line) {
        Matcher call = EXAMPLE.matcher(line);
        if (NEW_SHOW.matcher(line).matches()) {
            show = new Show();
            named.clear();
        } else if (call.matches()) {
            examples++;
            shownCalls.add(call.group(2));
            long due = Long.parseLong(call.group(4));
            show.due(due, call.group(2), numbers(call.group(3)));
            if (call.group(1) != null) {
                named.put(call.group(1), (int) due);
            }
        } else if (!line.isEmpty() && !line.startsWith("//")) {
            Show.complain("a line that can't be read: " + line);
        }
    }

    private static int[] numbers(String text) {
        List<String> words = words(text);
        int[] row = new int[words.size()];
        for (int i = 0; i < row.length; i++) {
            String word = words.get(i);
            row[i] = named.containsKey(word) ? named.get(word) : Integer.parseInt(word);
        }
        return row;
    }

    private static List<String> words(String text) {
        List<String> words = new ArrayList<>();
        for (String word : text.split(",")) {
            if (!word.isBlank()) {
                words.add(word.trim());
            }
        }
        return words;
    }

    // ---- the table of the calls

    private static Set<String> faceWithCounts() {
        Set<String> face = new TreeSet<>();
        for (Method m : WaxShow.class.getMethods()) {
            if (m.getDeclaringClass() == WaxShow.class) {
                face.add(m.getName() + " of " + m.getParameterCount());
            }
        }
        return face;
    }

    private static void table(List<String> lines) {
        Show.sentence("README.md: the table has every call and no other one");
        Set<String> rows = new TreeSet<>();
        for (String line : lines) {
            Matcher row = ROW.matcher(line);
            if (row.matches() && !rows.add(row.group(1) + " of " + words(row.group(2)).size())) {
                Show.complain(row.group(1) + " is there twice");
            }
        }
        if (!rows.equals(faceWithCounts())) {
            Show.complain("the rows are " + rows);
        }
    }

    // ---- the tests

    private static void tests(List<String> lines, Path root) throws IOException {
        Show.sentence("README.md: the tests it names are those there are");
        Set<String> told = new TreeSet<>();
        for (String line : lines) {
            Matcher test = TEST.matcher(line);
            while (test.find()) {
                told.add(test.group(1));
            }
        }
        Set<String> there = new TreeSet<>();
        try (var files = Files.list(root.resolve("src/test/java"))) {
            files.map(f -> f.getFileName().toString()).filter(f -> f.endsWith("Test.java"))
                    .forEach(f -> there.add(f.substring(0, f.length() - ".java".length())));
        }
        if (!told.equals(there)) {
            Show.complain("it names " + told + ", there are " + there);
        }
    }
}
