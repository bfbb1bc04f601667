/** Promise 4, operation 45: which exceptions are caught, and what is done when none is. */
final class TryTest {
    private static final int[][] CAUGHT = {{0}, {1}, {2}, {3, 5}, {0, 1, 2, 3, 4, 5, 6}, {}, {}, {6}};

    public static void main(String[] args) {
        for (int b = -16; b < 16; b++) {
            for (int sort = 0; sort < 7; sort++) {
                tryOf(b, sort);
            }
        }
        withoutException();
        inOneAnother();
        stopsAndFuel();
        whatWasDone();
        Bench.finish();
    }

    private static boolean catches(int b, int sort) {
        for (int each : CAUGHT[b & 7]) {
            if (each == sort) {
                return true;
            }
        }
        return false;
    }

    private static void tryOf(int b, int sort) {
        int finals = (b & 7) == 6 ? 1 : 0;
        Bench bench = new Bench().op(0, 14, 0, sort, 0).program(41, 70, 0, 0, 45, 3, b, 0, 42, 1, 0, 0, 26, 0, 0, 0, 42, 2, 0, 0, 42, 1000, 0, 0);
        if (catches(b, sort)) {
            bench.run(0, 0, 20).acc(-1 - sort + 1000).counts(1 + 5, 1, 0, 0, 14, 1);
        } else {
            bench.run(Bench.BY_SORT[sort], 0, 20).acc(71).counts(1 + 2, 0, finals, 1, 16, 1);
        }
    }

    private static void withoutException() {
        for (int b = 0; b < 8; b++) {
            int finals = b == 6 ? 1 : 0;
            new Bench().program(45, 1, b, 0, 42, 1, 0, 0, 42, 10, 0, 0).run(0, 0, 9).acc(11).counts(4, 0, finals, 0, 5, 0);
            // Of no operations.
            new Bench().program(45, 0, b, 0, 42, 10, 0, 0).run(0, 0, 9).acc(10).counts(3, 0, finals, 0, 6, 0);
            new Bench().program(45, -5, b, 0, 22, 0, 0, 0).run(Bench.ARITHMETIC, 0, 9).counts(1, 0, finals, 1, 7, 0);
            // What comes behind it is not caught.
            new Bench().program(45, 1, b, 0, 42, 1, 0, 0, 22, 0, 0, 0).run(Bench.ARITHMETIC, 0, 9).counts(2, 0, finals, 1, 6, 0);
        }
    }

    private static void inOneAnother() {
        // The inner one that catches, catches; the outer one sees none of it.
        new Bench().program(45, 3, 4, 0, 45, 1, 0, 0, 22, 0, 0, 0, 42, 50, 0, 0, 42, 1000, 0, 0).run(0, 0, 20).acc(1049).counts(5, 1, 0, 0, 14, 0);
        // The inner one doesn't catch: out of it and of the REPEAT between.
        new Bench().program(45, 4, 0, 0, 44, 3, 9, 0, 45, 2, 1, 0, 22, 0, 0, 0, 42, 50, 0, 0, 42, 1000, 0, 0).run(0, 0, 20).acc(999).counts(3, 1, 0, 0, 14, 0);
        // FINALS of each that is left, the outermost of them too.
        new Bench().program(45, 9, 6, 0, 45, 9, 6, 0, 45, 1, 1, 0, 22, 0, 0, 0).run(Bench.ARITHMETIC, 0, 20).counts(0, 0, 2, 1, 16, 0);
        // A second exception, behind one that was caught.
        new Bench().program(45, 3, 1, 0, 45, 1, 0, 0, 22, 0, 0, 0, 3, 0, 0, 0, 42, 1000, 0, 0).run(0, 0, 20).acc(998).counts(4, 2, 0, 0, 14, 0);
        // Caught in each turn.
        new Bench().program(44, 3, 5, 0, 45, 1, 4, 0, 22, 0, 0, 0, 42, 3, 0, 0).run(0, 0, 20).acc(2).counts(1 + 5 * 2 + 1, 5, 0, 0, 3, 0);
    }

    private static void stopsAndFuel() {
        new Bench().program(45, 3, 6, 0, 44, 2, 3, 0, 42, 1, 0, 0, 40, 0, 0, 0, 42, 1000, 0, 0).run(0, 0, 20).acc(1).counts(4, 0, 1, 0, 16, 0);
        new Bench().program(45, 3, 6, 0, 44, 2, 3, 0, 42, 1, 0, 0, 42, 2, 0, 0, 42, 1000, 0, 0).run(1, 0, 5).acc(4).counts(5, 0, 1, 0, 0, 0);
        new Bench().program(45, 1, 4, 0, 40, 0, 0, 0, 42, 1000, 0, 0).run(0, 0, 20).acc(0).counts(2, 0, 0, 0, 18, 0);
        new Bench().program(45, 1, 4, 0, 42, 1, 0, 0).run(1, 0, 1).acc(0).counts(1, 0, 0, 0, 0, 0);
        // The FUEL ends with the last operation in it: that it is done takes none.
        new Bench().program(45, 1, 6, 0, 42, 1, 0, 0).run(1, 0, 2).acc(1).counts(2, 0, 1, 0, 0, 0);
        // A run begins anew, whatever the one before it was amidst.
        new Bench().program(45, 2, 4, 0, 42, 1, 0, 0, 22, 0, 0, 0).run(1, 0, 2).run(Bench.ARITHMETIC, 2, 9).acc(1);
    }

    private static void whatWasDone() {
        // A copy that throws has come as far as it could; everything else that throws does nothing.
        Bench bench = new Bench().op(2, 9, 0, 0, 2).op(2, 9, 1, 1, 2).op(0, 13, 2, 1, 0).op(0, 13, 3, 0, 0).op(0, 10, 0, 0, 2).op(0, 10, 0, 1, 3);
        bench.program(45, 1, 3, 0, 31, 0, 1, 2).run(0, 0, 9).acc(-6).op(0, 12, 1, 0, 4).op(1, 30, 4, 2, 0).op(0, 12, 1, 1, 4).op(0, 27, 4, 12, 0);
        bench.program(45, 1, 3, 0, 10, 1, 1, 3).run(0, 0, 9).acc(-6).program(45, 1, 3, 0, 10, 1, 1, 1).run(0, 0, 9).acc(-4);
        bench.program(45, 1, 4, 0, 9, 1, 0, -1).run(0, 0, 9).acc(-5).op(1, 27, 1, 10, 0).count(4, 5);
    }
}
