import java.lang.reflect.Field;

/** One mill under test: each call is made and its answer held against the one that is due. */
final class Bench {
    static final String ARITHMETIC = "throws.ArithmeticException";
    static final String NULL = "throws.NullPointerException";
    static final String INDEX = "throws.ArrayIndexOutOfBoundsException";
    static final String CAST = "throws.ClassCastException";
    static final String SIZE = "throws.NegativeArraySizeException";
    static final String STORE = "throws.ArrayStoreException";
    static final String STATE = "throws.IllegalStateException";
    static final String[] BY_SORT = {ARITHMETIC, NULL, INDEX, CAST, SIZE, STORE, STATE};

    private static final String LOAD_TEXT = "the program's operations are 0 to 255";

    private static int looks = 0;
    private static int wrong = 0;
    private static String about = "";

    private final FaultMill mill = new FaultMill();

    static void due(String call, String got, String want) {
        looks++;
        if (!got.equals(want)) {
            wrong++;
            System.out.println(about + call + " answered " + got + ", due is " + want);
        }
    }

    /** What the looks from here on are about: it stands before each wrong answer. */
    static void about(String words) {
        about = words.isEmpty() ? "" : "\"" + words + "\": ";
    }

    static int looks() {
        return looks;
    }

    /** Ends the test: exit code 1 if an answer was wrong, or if nothing was looked at. */
    static void finish() {
        System.out.println("  " + looks + " answers, " + wrong + " wrong");
        if (wrong != 0 || looks == 0) {
            System.exit(1);
        }
    }

    static String thrown(RuntimeException e) {
        return "throws." + e.getClass().getSimpleName();
    }

    /** What the mill threw; the machine must not have thrown it, which gives each of its own a text. */
    private static String thrownByMill(RuntimeException e) {
        String text = e.getMessage();
        return text == null || text.equals(LOAD_TEXT) ? thrown(e) : "the machine throws: " + text;
    }

    static String answerOfOp(FaultMill mill, int what, int a, int b, int c) {
        try {
            return Long.toString(mill.op(what, a, b, c));
        } catch (RuntimeException e) {
            return thrownByMill(e);
        }
    }

    static String answerOfLoad(FaultMill mill, int k, int what, int a, int b, int c) {
        try {
            return Integer.toString(mill.load(k, what, a, b, c));
        } catch (RuntimeException e) {
            return thrownByMill(e);
        }
    }

    static String answerOfRun(FaultMill mill, int from, int fuel) {
        try {
            return Integer.toString(mill.run(from, fuel));
        } catch (RuntimeException e) {
            return thrownByMill(e);
        }
    }

    Bench op(long want, int what, int a, int b, int c) {
        return op(Long.toString(want), what, a, b, c);
    }

    Bench op(String want, int what, int a, int b, int c) {
        due("op(" + what + ", " + a + ", " + b + ", " + c + ")", answerOfOp(mill, what, a, b, c), want);
        return this;
    }

    /** The same for an operation's number, a, b and c in one row. */
    Bench op(String want, int[] call) {
        return op(want, call[0], call[1], call[2], call[3]);
    }

    Bench load(String want, int k, int what, int a, int b, int c) {
        due("load(" + k + ", " + what + ", ..)", answerOfLoad(mill, k, what, a, b, c), want);
        return this;
    }

    Bench run(int want, int from, int fuel) {
        return run(Integer.toString(want), from, fuel);
    }

    Bench run(String want, int from, int fuel) {
        due("run(" + from + ", " + fuel + ")", answerOfRun(mill, from, fuel), want);
        return this;
    }

    Bench acc(long want) {
        due("acc()", Long.toString(mill.acc()), Long.toString(want));
        return this;
    }

    Bench count(int want, int what) {
        due("count(" + what + ")", Integer.toString(mill.count(what)), Integer.toString(want));
        return this;
    }

    /** Looks at counts 0 to 5. */
    Bench counts(int done, int caught, int finals, int letOut, int fuel, int made) {
        return count(done, 0).count(caught, 1).count(finals, 2).count(letOut, 3).count(fuel, 4).count(made, 5);
    }

    /** Operations from 0 on, four numbers each, and STOP behind them. */
    Bench program(int... words) {
        int k = 0;
        for (; k < words.length / 4; k++) {
            mill.load(k, words[4 * k], words[4 * k + 1], words[4 * k + 2], words[4 * k + 3]);
        }
        mill.load(k, 40, 0, 0, 0);
        return this;
    }

    /** Gives ACC any long: by programs, 512 calls come no further than 2^48. */
    Bench giveLong(long value) {
        try {
            Field field = FaultMill.class.getDeclaredField("acc");
            field.setAccessible(true);
            field.setLong(mill, value);
        } catch (ReflectiveOperationException e) {
            throw new AssertionError(e);
        }
        return acc(value);
    }

    /** Gives ACC an int, by a program. */
    Bench give(int value) {
        return program(41, value, 0, 0).run(0, 0, 2).acc(value);
    }
}
