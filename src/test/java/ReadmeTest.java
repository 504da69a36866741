import java.io.IOException;
import java.nio.file.Files;
import java.nio.file.Path;
import java.util.List;
import java.util.Set;
import java.util.TreeSet;
import java.util.regex.Matcher;
import java.util.regex.Pattern;
import java.util.stream.Collectors;
import java.util.stream.Stream;

/** That README.md is true: its example, its table of calls, its table of tests; run from the project's root. */
public final class ReadmeTest {
    private static final Pattern TEXT = Pattern.compile("\"([^\"]*)\"\\.toCharArray");
    private static final Pattern CALL = Pattern.compile("(?m)^x\\.(\\w+\\([^)]*\\));\\s*// (-?\\d+)");
    private static final Pattern PROMISE = Pattern.compile("`int (\\w+)\\(([^)]*)\\)`:(.*)");
    private static final Pattern REFUSAL = Pattern.compile("\\b(UNKNOWN|OUTSIDE|NOT|FULL)\\b");

    public static void main(String[] args) throws IOException {
        String readme = Files.readString(Path.of("README.md"));
        example(readme);
        calls(readme, Files.readString(Path.of("../shared/DOC.md")));
        tests(readme);
        Due.end();
    }

    private static void example(String readme) {
        String example = readme.split("```java\n")[1].split("```")[0];
        Used x = new Used();
        Matcher text = TEXT.matcher(example);
        Due.isTrue("the example writes a text", text.find());
        x.write(text.group(1));
        Matcher call = CALL.matcher(example);
        int asked = 0;
        while (call.find()) {
            asked++;
            Due.is("in the example " + call.group(1), x.ask(call.group(1)), Integer.parseInt(call.group(2)));
        }
        Due.is("calls of the example with their answers", asked, example.split("\nx\\.").length - 1);
    }

    // Each call of the document has a row with the same refusals, and so much for NONE.
    private static void calls(String readme, String document) {
        List<String> rows = readme.lines().filter(line -> line.matches("\\| `\\w+\\(.*")).toList();
        Matcher promise = PROMISE.matcher(document);
        int promises = 0;
        while (promise.find()) {
            promises++;
            String call = "| `" + promise.group(1) + "(" + promise.group(2).replace("int ", "") + ")` |";
            List<String> found = rows.stream().filter(row -> row.startsWith(call)).toList();
            Due.is("rows for " + call, found.size(), 1);
            if (found.size() == 1) {
                String[] cells = found.get(0).split("\\|", -1);
                Due.isTrue("refusals as in the document: " + found, refusals(cells[3]).equals(refusals(promise.group(3))));
                Due.isTrue("no refusal among the answers: " + found, refusals(cells[2]).isEmpty());
                boolean mayBeNone = promise.group(3).replace("k NONE", "").contains("NONE");
                Due.isTrue("NONE as in the document: " + found, cells[2].contains("NONE") == mayBeNone);
            }
        }
        Due.is("calls that the document promises", promises, 29);
        Due.is("calls that README.md tells", rows.size(), promises);
    }

    private static Set<String> refusals(String words) {
        return REFUSAL.matcher(words).results().map(found -> found.group(1)).collect(Collectors.toCollection(TreeSet::new));
    }

    private static void tests(String readme) throws IOException {
        try (Stream<Path> files = Files.list(Path.of("src/test/java"))) {
            Set<String> names = files.map(file -> file.getFileName().toString().replace(".java", ""))
                .collect(Collectors.toCollection(TreeSet::new));
            for (String name : names) {
                boolean isTest = name.endsWith("Test");
                Due.isTrue("README.md says what " + name + " is for",
                    readme.contains(isTest ? "\n| `" + name + "` |" : "`" + name + "`"));
            }
            Matcher told = Pattern.compile("\n\\| `(\\w+Test)` \\|").matcher(readme);
            while (told.find()) {
                Due.isTrue(told.group(1) + " of README.md is there", names.contains(told.group(1)));
            }
        }
    }
}
