/** Operations 40 to 45, and all other numbers. */
final class ProgramSentences {
    private static final int MIN = Integer.MIN_VALUE;
    private static final int MAX = Integer.MAX_VALUE;

    private ProgramSentences() {
    }

    static void all() {
        sums();
        jumps();
        tries();
        finals();
        ends();
        Sentence.holds("All other numbers: nothing is done, and answer -1.", () -> {
            for (int what : new int[] {-1, -40, 32, 33, 39, 46, 47, 255, 256, 1 << 16, MIN, MIN + 13, MAX}) {
                int[] call = {what, Stock.STONE, 1, 1};
                // Nothing is looked at, either.
                Stock.isWhole(Stock.full().op("-1", call).op(-1, what, 32, 0, -1).op(-1, what, MIN, MIN, MIN));
                Stock.isWhole(Stock.full().program(call).run(0, 0, 9).acc(-1).give(Stock.ACC));
            }
        });
    }

    private static void sums() {
        Sentence.holds("In PROGRAMS also: 40 STOP;", () -> {
            new Bench().program(41, 5, 0, 0, 40, 9, 9, 9, 41, 6, 0, 0).run(0, 0, 9).acc(5).count(7, 4);
            // Out of all that it is in.
            new Bench().program(44, 3, 5, 0, 45, 2, 4, 0, 42, 1, 0, 0, 40, 0, 0, 0, 42, 100, 0, 0).run(0, 0, 99).acc(1).count(95, 4);
        });
        Sentence.holds("41 CONST: ACC is a;", () -> {
            for (int a : new int[] {0, 1, -1, MIN, MAX}) {
                new Bench().giveLong(Long.MAX_VALUE).program(41, a, 7, 7).run(0, 0, 9).acc(a);
            }
        });
        Sentence.holds("42 ADD: a is added to ACC (what overflows is lost);", () -> {
            long[][] rows = {{0, 5, 5}, {5, -6, -1}, {MAX, 1, 1L << 31}, {MIN, -1, -(1L << 31) - 1}, {Long.MAX_VALUE, 1, Long.MIN_VALUE}, {Long.MIN_VALUE, -1, Long.MAX_VALUE},
                {Long.MAX_VALUE, MAX, Long.MIN_VALUE + MAX - 1}, {Long.MIN_VALUE, MIN, Long.MAX_VALUE + MIN + 1}, {-1, 1, 0}};
            for (long[] r : rows) {
                new Bench().giveLong(r[0]).program(42, (int) r[1], 7, 7).run(0, 0, 9).acc(r[2]);
            }
        });
    }

    private static void jumps() {
        Sentence.holds("43 IF: if ACC is below 0 the next a operations are left out;", () -> {
            for (long acc : new long[] {-1, -2, MIN, -(1L << 32), -(1L << 31) - 1, Long.MIN_VALUE}) {
                for (int a = 0; a <= 3; a++) {
                    int[] sums = {111, 110, 100, 0};
                    new Bench().giveLong(acc).program(43, a, 9, 9, 42, 1, 0, 0, 42, 10, 0, 0, 42, 100, 0, 0).run(0, 0, 9)
                        .acc(acc + sums[a]).counts(5 - a, 0, 0, 0, 9 - 5 + a, 0);
                }
            }
            for (long acc : new long[] {0, 1, MAX, 1L << 31, (1L << 32) - 1, 1L << 32}) {
                new Bench().giveLong(acc).program(43, 2, 9, 9, 42, 1, 0, 0, 42, 10, 0, 0, 42, 100, 0, 0).run(0, 0, 9).acc(acc + 111)
                    .counts(5, 0, 0, 0, 4, 0);
            }
        });
        Sentence.holds("44 REPEAT: the next a operations are done b times;", () -> {
            for (int b : new int[] {MIN, -1, 0, 1, 2, 3, 60}) {
                int times = Math.max(b, 0);
                new Bench().program(44, 2, b, 9, 42, 1, 0, 0, 42, 10, 0, 0, 42, 1000, 0, 0).run(0, 0, 200).acc(1000 + 11L * times)
                    .counts(3 + 2 * times, 0, 0, 0, 197 - 2 * times, 0);
                new Bench().program(44, 0, b, 9, 42, 1, 0, 0).run(0, 0, 200).acc(1).counts(3, 0, 0, 0, 197, 0);
            }
            // As often as there is FUEL for; and of no operations at once, however often.
            new Bench().program(44, 1, MAX, 0, 42, 1, 0, 0).run(1, 0, 200).acc(199).counts(200, 0, 0, 0, 0, 0);
            new Bench().program(44, 0, MAX, 0, 42, 1, 0, 0).run(0, 0, 200).acc(1).counts(3, 0, 0, 0, 197, 0);
            // One in another begins its turns anew each time.
            new Bench().program(44, 3, 3, 0, 44, 1, 4, 0, 42, 1, 0, 0, 42, 100, 0, 0).run(0, 0, 200).acc(312).count(1 + 3 * 6 + 1, 0);
            // What is left out in a turn is left out in that turn alone.
            new Bench().program(41, -2, 0, 0, 44, 3, 4, 0, 42, 1, 0, 0, 43, 1, 0, 0, 42, 100, 0, 0).run(0, 0, 200).acc(-2 + 4 + 300);
        });
    }

    private static boolean catches(int b, int sort) {
        int[] catchers = {0, 1, 2, 3, 4, 3, 7};
        return (b & 7) == 4 || (b & 7) == catchers[sort];
    }

    private static void tries() {
        Sentence.holds("45 TRY: the next a operations are done; an exception that they let out is caught, by b's lowest three bits: 0 ArithmeticException, 1 NullPointerException, "
            + "2 ArrayIndexOutOfBoundsException, 3 ClassCastException and ArrayStoreException, 4 any, 5 and 6 none, 7 IllegalStateException;", () -> {
                for (int low = 0; low < 8; low++) {
                    for (int b : new int[] {low, low + 8, low - 8, low | MIN, low | MAX - 7}) {
                        for (int sort = 0; sort < 7; sort++) {
                            thrownIn(b, sort);
                        }
                        new Bench().program(45, 2, b, 9, 42, 1, 0, 0, 42, 10, 0, 0, 42, 100, 0, 0).run(0, 0, 9).acc(111).count(0, 1)
                            .count(5, 0);
                    }
                }
                // The next a alone: neither the one behind them nor the one before.
                new Bench().program(45, 1, 4, 0, 42, 1, 0, 0, 22, 0, 0, 0).run(Bench.ARITHMETIC, 0, 9).acc(1).count(0, 1);
                new Bench().program(22, 0, 0, 0, 45, 1, 4, 0, 42, 1, 0, 0).run(Bench.ARITHMETIC, 0, 9).acc(0).count(0, 1);
                // What one lets out, another one round it catches, with the REPEAT between them left.
                new Bench().program(45, 4, 0, 0, 44, 3, 9, 0, 45, 2, 1, 0, 22, 0, 0, 0, 42, 50, 0, 0, 42, 1000, 0, 0).run(0, 0, 20)
                    .acc(999).counts(3, 1, 0, 0, 14, 0);
            });
        Sentence.holds("when it is caught ACC is -1 less its sort (as of LETTERS);", () -> {
            for (int sort = 0; sort < 7; sort++) {
                new Bench().op(0, 14, 0, sort, 0).program(41, 70, 0, 0, 45, 1, 4, 0, 26, 0, 0, 0).run(0, 0, 9).acc(-1 - sort);
                // When none is caught ACC stays.
                new Bench().op(0, 14, 0, sort, 0).program(41, 70, 0, 0, 45, 1, 5, 0, 26, 0, 0, 0).run(Bench.BY_SORT[sort], 0, 9)
                    .acc(70);
            }
            new Bench().program(41, 70, 0, 0, 45, 1, 4, 0, 42, 1, 0, 0).run(0, 0, 9).acc(71);
        });
    }

    private static void thrownIn(int b, int sort) {
        Bench bench = new Bench().op(0, 14, 0, sort, 0).program(45, 3, b, 9, 42, 1, 0, 0, 26, 0, 0, 0, 42, 10, 0, 0, 42, 100, 0, 0);
        if (catches(b, sort)) {
            // On it goes behind all that were tried.
            bench.run(0, 0, 9).acc(-1 - sort + 100).count(1, 1).count(0, 3).count(4, 4);
        } else {
            bench.run(Bench.BY_SORT[sort], 0, 9).acc(1).count(0, 1).count(1, 3).count(6, 4);
        }
    }

    private static void finals() {
        Sentence.holds("with 6 FINALS are one more when they are done, whether or not they let one out, were stopped, or lacked FUEL.", () -> {
            for (int b : new int[] {6, 14, -2, 0, 1, 2, 3, 4, 5, 7}) {
                int one = (b & 7) == 6 ? 1 : 0;
                new Bench().program(45, 1, b, 0, 42, 1, 0, 0).run(0, 0, 9).count(one, 2);
                new Bench().program(45, 1, b, 0, 40, 0, 0, 0).run(0, 0, 9).count(one, 2);
                new Bench().program(45, 2, b, 0, 42, 1, 0, 0, 42, 1, 0, 0).run(1, 0, 2).count(one, 2).run(1, 0, 1).count(2 * one, 2);
                // Of no operations, too; and at the last FUEL.
                new Bench().program(45, 0, b, 0).run(0, 0, 9).count(one, 2).run(1, 0, 1).count(2 * one, 2);
            }
            for (int sort = 0; sort < 7; sort++) {
                new Bench().op(0, 14, 0, sort, 0).program(45, 1, 6, 0, 26, 0, 0, 0).run(Bench.BY_SORT[sort], 0, 9).count(1, 2)
                    .program(45, 2, 4, 0, 45, 1, 6, 0, 26, 0, 0, 0).run(0, 0, 9).acc(-1 - sort).count(2, 2);
            }
            // Each of those round it, once; in each turn, once; never begun, never.
            new Bench().program(45, 3, 6, 0, 45, 2, 6, 0, 45, 1, 6, 0, 40, 0, 0, 0).run(0, 0, 9).count(3, 2).run(1, 0, 2)
                .count(5, 2).run(1, 0, 0).count(5, 2);
            new Bench().program(44, 2, 7, 0, 45, 1, 6, 0, 42, 1, 0, 0).run(0, 0, 99).count(7, 2).acc(7);
        });
    }

    private static void ends() {
        Sentence.holds("a below 0 is 0;", () -> {
            for (int a : new int[] {-1, -2, MIN}) {
                new Bench().program(41, -5, 0, 0, 43, a, 0, 0, 42, 1, 0, 0, 42, 10, 0, 0).run(0, 0, 9).acc(6).counts(5, 0, 0, 0, 4, 0);
                new Bench().program(44, a, 3, 0, 42, 1, 0, 0, 42, 10, 0, 0).run(0, 0, 9).acc(11).counts(4, 0, 0, 0, 5, 0);
                new Bench().program(45, a, 4, 0, 42, 1, 0, 0, 22, 0, 0, 0).run(Bench.ARITHMETIC, 0, 9).acc(1).counts(2, 0, 0, 1, 6, 0);
                new Bench().program(45, a, 6, 0, 42, 1, 0, 0, 42, 10, 0, 0).run(0, 0, 9).acc(11).counts(4, 0, 1, 0, 5, 0);
            }
        });
        Sentence.holds("what would go beyond the end of the PROGRAM, or of the operations that this one is among, goes to there.", () -> {
            for (int a : new int[] {2, 3, 255, 256, 1 << 30, MAX}) {
                beyondTheProgram(a);
                beyondTheBlock(a);
            }
        });
    }

    private static void beyondTheProgram(int a) {
        new Bench().give(-5).load("254", 254, 43, a, 0, 0).load("255", 255, 42, 1, 0, 0).run(0, 254, 9).acc(-5).count(8, 4);
        new Bench().load("254", 254, 44, a, 3, 0).load("255", 255, 42, 1, 0, 0).run(0, 254, 9).acc(3).counts(4, 0, 0, 0, 5, 0);
        new Bench().load("254", 254, 45, a, 4, 0).load("255", 255, 22, 0, 0, 0).run(0, 254, 9).acc(-1).counts(1, 1, 0, 0, 7, 0);
        // As the very last operation: nothing is behind it.
        new Bench().give(-5).load("255", 255, 43, a, 0, 0).run(0, 255, 1).acc(-5).count(0, 4);
        new Bench().load("255", 255, 44, a, MAX, 0).run(0, 255, 1).counts(1, 0, 0, 0, 0, 0);
        new Bench().load("255", 255, 45, a, 6, 0).run(0, 255, 1).counts(1, 0, 1, 0, 0, 0);
    }

    /** Among the two operations of a REPEAT, and of a TRY: what stands behind them is not drawn in. */
    private static void beyondTheBlock(int a) {
        new Bench().program(41, -5, 0, 0, 44, 2, 2, 0, 43, a, 0, 0, 42, 1, 0, 0, 42, 100, 0, 0).run(0, 0, 20).acc(95)
            .counts(6, 0, 0, 0, 14, 0);
        new Bench().program(44, 2, 2, 0, 44, a, 3, 0, 42, 1, 0, 0, 42, 100, 0, 0).run(0, 0, 20).acc(106)
            .counts(1 + 2 * 4 + 2, 0, 0, 0, 9, 0);
        new Bench().program(44, 2, 2, 0, 45, a, 4, 0, 42, 1, 0, 0, 22, 0, 0, 0).run(Bench.ARITHMETIC, 0, 20).acc(2)
            .counts(5, 0, 0, 1, 14, 0);
        new Bench().program(41, -5, 0, 0, 45, 2, 5, 0, 43, a, 0, 0, 42, 1, 0, 0, 42, 100, 0, 0).run(0, 0, 20).acc(95)
            .counts(5, 0, 0, 0, 15, 0);
        new Bench().program(45, 2, 5, 0, 44, a, 3, 0, 42, 1, 0, 0, 42, 100, 0, 0).run(0, 0, 20).acc(103).counts(7, 0, 0, 0, 13, 0);
        new Bench().program(45, 2, 5, 0, 45, a, 4, 0, 42, 1, 0, 0, 22, 0, 0, 0).run(Bench.ARITHMETIC, 0, 20).acc(1)
            .counts(3, 0, 0, 1, 16, 0);
    }
}
