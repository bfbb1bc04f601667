import java.io.IOException;
import java.nio.file.Files;
import java.nio.file.Path;
import java.util.ArrayList;
import java.util.Arrays;
import java.util.List;

/** The document's own words, each with the calls that would answer otherwise if they were broken. */
final class Sentence {
    private static final Path DOCUMENT = Path.of("../shared/DOC.md");
    private static final List<String> HELD = new ArrayList<>();

    private Sentence() {
    }

    /** Makes the calls; what they answer wrongly is told with the words. */
    static void holds(String words, Runnable calls) {
        HELD.add(words);
        int before = Bench.looks();
        Bench.about(words);
        calls.run();
        Bench.due("its test looks at something", "" + (Bench.looks() > before), "true");
        Bench.about("");
    }

    /** Looks whether all that was held is said by the document, and all it promises was held. */
    static void coverDocument() throws IOException {
        String text = Files.readString(DOCUMENT).replaceAll("\\s+", " ");
        String promises = text.substring(text.indexOf("## Terms"), text.indexOf("## Not promised"));
        boolean[] covered = new boolean[promises.length()];
        for (String words : HELD) {
            Bench.due("the document says \"" + words + "\"", "" + text.contains(words), "true");
            for (int at = promises.indexOf(words); at >= 0; at = promises.indexOf(words, at + 1)) {
                Arrays.fill(covered, at, at + words.length(), true);
            }
        }
        StringBuilder left = new StringBuilder();
        for (int k = 0; k < covered.length; k++) {
            left.append(covered[k] ? '|' : promises.charAt(k));
        }
        // Headings, and the face in backquotes, are FaceTest's.
        String rest = left.toString().replaceAll("## (Terms|Promise \\d: [A-Za-z ]*?(?= `))", "").replaceAll("`[^`]+`:", "")
            .replace("```text", "").replace("```", "").replaceAll("[|\\s.;:,]+", " ").trim();
        Bench.due("the document's words that no test holds", rest, "");
        System.out.println("  " + HELD.size() + " sentences of the document");
    }
}
