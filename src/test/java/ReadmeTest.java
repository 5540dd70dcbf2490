import java.io.IOException;
import java.lang.reflect.Method;
import java.nio.file.Files;
import java.nio.file.Path;
import java.util.ArrayList;
import java.util.Arrays;
import java.util.List;
import java.util.TreeSet;
import java.util.regex.Matcher;
import java.util.regex.Pattern;

/**
 * README.md against the class: its example stands here too and answers what its
 * comments say, its tables name each call and each sort of part, and its list each
 * test. The first argument names the class's source, by which README.md is found.
 */
final class ReadmeTest {
    private static final Pattern ANSWER = Pattern.compile("^int \\w+ = grid\\.\\w+\\(.*?\\);\\s*// (-?\\d+)\\b", Pattern.MULTILINE);
    private static final Pattern PART = Pattern.compile("^\\| `(\\S+)` \\| `(\\w+)\\((\\d+), (\\d+)(?:, (\\d+))?\\)` \\|$", Pattern.MULTILINE);

    public static void main(String[] args) throws IOException {
        Check.about("README.md");
        Path source = Path.of(args.length > 0 ? args[0] : "src/main/java/ClueGrid.java").toAbsolutePath();
        Path root = source.getParent().getParent().getParent().getParent();
        String readme = Files.readString(root.resolve("README.md"));
        String here = Files.readString(root.resolve("src/test/java/ReadmeTest.java"));
        example(readme.substring(readme.indexOf("```java\n") + "```java\n".length(), readme.indexOf("```\n\nItems")), here);
        calls(readme);
        parts(readme);
        tests(readme, root);
        Check.end("ReadmeTest");
    }

    private static void example(String block, String here) {
        for (String line : block.split("\n")) {
            Check.due("ReadmeTest has the line: " + line, here.contains("\n        " + line + "\n"), true);
        }
        List<Integer> told = new ArrayList<>();
        Matcher answer = ANSWER.matcher(block);
        while (answer.find()) {
            told.add(Integer.valueOf(answer.group(1)));
        }
        Check.due("the answers of the example", answers(), told.toString());
    }

    private static String answers() {
        ClueGrid grid = new ClueGrid();
        int first = grid.same(0, 4);      // 0: the clue 0, the items A and E stand at the same place
        int second = grid.at(0, 2);       // 1: the clue 1, A stands at the place 2
        int places = grid.left(4);        // 4: the bit 2, so only the place 2 is left for E
        int where = grid.fixedAt(4);      // 2: that place
        int hint = grid.hint();           // 0: 4 * 0 + 0, so the place 0 can be crossed out for A
        int by = grid.hintBy();           // 1: as the clue 1 rules it out
        int count = grid.solutions();     // 864
        int crossed = grid.settle();      // 12: all is crossed out that propagation rules out
        for (char sign : "B<C;xD0".toCharArray()) {
            grid.append(sign);
        }
        int error = grid.firstError();    // 7: the length of the text, as it has no error
        int done = grid.take();           // 2: a clue is added and a cross is made
        int saved = grid.undo();          // 3: both are gone again; three more calls can be undone
        return Arrays.toString(new int[] {first, second, places, where, hint, by, count, crossed, error, done, saved});
    }

    /** The table between "for" and "A text": each call of the face once. */
    private static void calls(String readme) {
        String table = readme.substring(readme.indexOf("| for | calls |"), readme.indexOf("A text is one or more parts"));
        List<String> named = new ArrayList<>();
        Matcher name = Pattern.compile("`(\\w+)`").matcher(table);
        while (name.find()) {
            named.add(name.group(1));
        }
        TreeSet<String> due = new TreeSet<>();
        for (Method method : ClueGrid.class.getMethods()) {
            if (method.getDeclaringClass() == ClueGrid.class) {
                due.add(method.getName());
            }
        }
        Check.due("calls that the table names", named.size(), due.size());
        Check.due("calls of the table", new TreeSet<>(named).toString(), due.toString());
    }

    /** Each part of a text does what the call beside it does. */
    private static void parts(String readme) {
        Matcher row = PART.matcher(readme);
        int count = 0;
        while (row.find()) {
            ClueGrid grid = Cases.grid(row.group(1).replace("\\", ""));
            ClueGrid twin = new ClueGrid();
            int third = row.group(5) == null ? 0 : Integer.parseInt(row.group(5));
            call(twin, row.group(2), Integer.parseInt(row.group(3)), Integer.parseInt(row.group(4)), third);
            Check.due("the state after " + row.group(1), Told.state(grid), Told.state(twin));
            count++;
        }
        Check.due("rows of parts", count, 8);
    }

    private static void call(ClueGrid grid, String name, int one, int other, int third) {
        switch (name) {
            case "same": grid.same(one, other); break;
            case "apart": grid.apart(one, other); break;
            case "leftOf": grid.leftOf(one, other); break;
            case "nextTo": grid.nextTo(one, other); break;
            case "at": grid.at(one, other); break;
            case "notAt": grid.notAt(one, other); break;
            case "either": grid.either(one, other, third); break;
            case "cross": grid.cross(one, other); break;
            default: Check.fail("README.md names a call of no part: " + name);
        }
    }

    private static void tests(String readme, Path root) throws IOException {
        try (var files = Files.list(root.resolve("src/test/java"))) {
            for (Path file : files.toList()) {
                String name = file.getFileName().toString().replace(".java", "");
                Check.due("README.md tells of " + name, !name.endsWith("Test") || readme.contains("`" + name + "`"), true);
            }
        }
    }
}
