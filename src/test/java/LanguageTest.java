import java.io.IOException;
import java.nio.file.Files;
import java.nio.file.Path;
import java.util.regex.Pattern;

/** Words and signs that LANGUAGE.md keeps out of the class; run from the project's folder. */
final class LanguageTest {
    private static final String[] KEPT_OUT = {
        "\\bcatch\\b", "\\btry\\b", "\\bfinally\\b", "\\bsynchronized\\b", "\\bassert\\b", "\\bimport\\b", "\\bpackage\\b",
        "\\bprotected\\b", "\\bvolatile\\b", "\\brecord\\b", "\\bObject\\b", "Exact\\b", "->", "::", "static \\{", "\\bSystem\\.(?!arraycopy)"};

    public static void main(String[] args) throws IOException {
        String source = Files.readString(Path.of("src/main/java/FaultMill.java"));
        String code = source.replaceAll("(?s)/\\*.*?\\*/", "").replaceAll("//.*", "");
        for (String each : KEPT_OUT) {
            Bench.due("the class has " + each, "" + Pattern.compile(each).matcher(code).find(), "false");
        }
        for (char sign : source.toCharArray()) {
            if (sign > 126) {
                Bench.due("a sign of the class", "" + (int) sign, "at most 126");
            }
        }
        Bench.finish();
    }
}
