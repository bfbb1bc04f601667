import java.io.IOException;

/** Each sentence of the document has a test of its own, and none of its words is left out. */
final class SentencesTest {
    public static void main(String[] args) throws IOException {
        Sentence.holds("An object is used for at most 512 calls after it has been made;", SentencesTest::manyCalls);
        TermSentences.all();
        RowSentences.all();
        CaseSentences.all();
        BoxSentences.all();
        NumberSentences.all();
        CopySentences.all();
        ProgramSentences.all();
        PromiseSentences.all();
        Sentence.coverDocument();
        Bench.finish();
    }

    /** The dearest calls there are, 512 of them: all FUEL is used, to the last call. */
    private static void manyCalls() {
        Bench bench = new Bench().load("0", 0, 44, 1, Integer.MAX_VALUE, 0).load("1", 1, 42, Integer.MAX_VALUE, 0, 0);
        for (int call = 3; call < 512; call++) {
            bench.run(1, 0, 200);
        }
        bench.acc(509L * 199 * Integer.MAX_VALUE);
        Bench failing = new Bench().load("0", 0, 44, 2, Integer.MAX_VALUE, 0).load("1", 1, 45, 1, 4, 0).load("2", 2, 0, 32, 0, 0);
        for (int call = 4; call < 512; call++) {
            failing.run(1, 0, 200);
        }
        failing.count(508 * 99, 1);
    }
}
