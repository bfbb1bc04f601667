import java.io.IOException;
import java.nio.file.Files;
import java.nio.file.Path;
import java.util.ArrayList;
import java.util.List;
import java.util.Set;
import java.util.TreeSet;
import java.util.regex.Matcher;
import java.util.regex.Pattern;
import java.util.stream.Stream;

/** README.md tells the truth; run from the project's folder. */
final class ReadmeTest {
    private static final Pattern CALL = Pattern.compile("mill\\.(\\w+)\\(([-\\d, ]*)\\); +// (?:(-?\\d+)|throws (\\w+)):.*");
    private static final Pattern OPERATION = Pattern.compile("\\| (\\d+) \\| ([A-Z ]+?)(, of longs)? \\|.*");
    private static final Pattern SORT = Pattern.compile("\\| (\\d) \\| (\\w+Exception) \\|.*");
    private static final Pattern TEST = Pattern.compile("`(\\w+Test)`");

    public static void main(String[] args) throws IOException {
        String readme = Files.readString(Path.of("README.md"));
        String document = Files.readString(Path.of("../shared/DOC.md")).replaceAll("\\s+", " ");
        example(readme);
        operations(readme, document);
        sorts(readme, document);
        tests(readme);
        Bench.due("README.md says how the tests are run", "" + readme.contains("\n    .ci/run\n"), "true");
        Bench.finish();
    }

    private static void example(String readme) {
        int begin = readme.indexOf("```java\n");
        String[] lines = readme.substring(begin, readme.indexOf("```\n", begin + 8)).split("\n");
        FaultMill mill = new FaultMill();
        Set<String> used = new TreeSet<>();
        for (String line : lines) {
            if (line.startsWith("mill.")) {
                Matcher call = CALL.matcher(line);
                Bench.due("a line that can be held: " + line, "" + call.matches(), "true");
                if (call.matches()) {
                    used.add(call.group(1));
                    String want = call.group(3) != null ? call.group(3) : "throws." + call.group(4);
                    Bench.due("README.md: " + line, answer(mill, call.group(1), numbers(call.group(2))), want);
                }
            }
        }
        Bench.due("the example's calls", used.toString(), "[acc, count, load, op, run]");
    }

    private static int[] numbers(String list) {
        return Stream.of(list.split(",")).map(String::trim).filter(each -> !each.isEmpty()).mapToInt(Integer::parseInt).toArray();
    }

    private static String answer(FaultMill mill, String name, int[] n) {
        switch (name) {
            case "op": return Bench.answerOfOp(mill, n[0], n[1], n[2], n[3]);
            case "load": return Bench.answerOfLoad(mill, n[0], n[1], n[2], n[3], n[4]);
            case "run": return Bench.answerOfRun(mill, n[0], n[1]);
            case "acc": return Long.toString(mill.acc());
            default: return Integer.toString(mill.count(n[0]));
        }
    }

    private static void operations(String readme, String document) {
        List<Integer> numbers = new ArrayList<>();
        List<Integer> want = new ArrayList<>();
        for (int k = 0; k <= 45; k++) {
            if (k <= 31 || k >= 40) {
                want.add(k);
            }
        }
        for (String line : readme.split("\n")) {
            Matcher row = OPERATION.matcher(line);
            if (row.matches()) {
                int number = Integer.parseInt(row.group(1));
                numbers.add(number);
                // The document names 24 and 25 by 22 and 23 alone.
                String words = (row.group(3) == null ? number : number - 2) + " " + row.group(2);
                Bench.due("the document has " + words, "" + Pattern.compile("\\b" + words + "\\b").matcher(document).find(), "true");
            }
        }
        Bench.due("README.md's operations", numbers.toString(), want.toString());
    }

    private static void sorts(String readme, String document) {
        int found = 0;
        for (String line : readme.split("\n")) {
            Matcher row = SORT.matcher(line);
            if (row.matches()) {
                String name = row.group(2);
                int sort = Integer.parseInt(row.group(1));
                Bench.due("sort " + sort + " is " + name, "" + document.contains(sort + " " + name), "true");
                Bench.due("sort of " + name, Bench.BY_SORT[sort], "throws." + name);
                found++;
            }
        }
        Bench.due("README.md's sorts of exceptions", "" + found, "7");
    }

    private static void tests(String readme) throws IOException {
        Set<String> told = new TreeSet<>();
        Matcher name = TEST.matcher(readme);
        while (name.find()) {
            told.add(name.group(1));
        }
        Set<String> there = new TreeSet<>();
        try (Stream<Path> files = Files.list(Path.of("src/test/java"))) {
            files.map(file -> file.getFileName().toString()).filter(file -> file.endsWith("Test.java"))
                .forEach(file -> there.add(file.replace(".java", "")));
        }
        Bench.due("README.md's tests", told.toString(), there.toString());
    }
}
