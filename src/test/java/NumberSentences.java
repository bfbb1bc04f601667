/** Operations 22 to 30: divisions, letters that are thrown, and places. */
final class NumberSentences {
    private static final int MIN = Integer.MIN_VALUE;
    private static final int MAX = Integer.MAX_VALUE;
    private static final long LEAST = Long.MIN_VALUE;
    private static final long MOST = Long.MAX_VALUE;
    private static final int NONE = Stock.NOTHING;

    private NumberSentences() {
    }

    static void all() {
        divisions();
        raises();
        sorts();
        places();
    }

    private static void divisions() {
        Sentence.holds("22 DIVIDE, 23 REST: of ACC's lowest 32 bits by b, as ints;", () -> {
            for (long acc : new long[] {0, 17, -17, MIN, MAX, 1L << 31, (1L << 32) + 17, (1L << 33) - 1, LEAST, MOST}) {
                for (int b : new int[] {1, 5, -5, MIN, MAX}) {
                    new Bench().giveLong(acc).op((int) acc / b, 22, 0, b, 0).op((int) acc % b, 23, 0, b, 0).acc(acc);
                }
            }
        });
        Sentence.holds("24, 25 likewise of ACC by b, as longs:", () -> {
            for (long acc : new long[] {0, 17, -17, MIN, MAX, 1L << 31, (1L << 32) + 17, (1L << 33) - 1, LEAST, MOST}) {
                for (int b : new int[] {1, 5, -5, MIN, MAX}) {
                    new Bench().giveLong(acc).op(acc / b, 24, 0, b, 0).op(acc % b, 25, 0, b, 0).acc(acc);
                }
            }
        });
        Sentence.holds("ArithmeticException if b is 0;", () -> {
            for (long acc : new long[] {0, 1, LEAST, MOST}) {
                for (int what = 22; what <= 25; what++) {
                    new Bench().giveLong(acc).op(Bench.ARITHMETIC, what, 1, 0, 1).acc(acc).program(what, 1, 0, 1)
                        .run(Bench.ARITHMETIC, 0, 9).acc(acc);
                }
            }
        });
        Sentence.holds("towards 0, the rest with the sign of the left side;", () -> {
            int[][] rows = {{7, 2, 3, 1}, {-7, 2, -3, -1}, {7, -2, -3, 1}, {-7, -2, 3, -1}, {1, 2, 0, 1}, {-1, 2, 0, -1}, {-1, -2, 0, -1}, {-6, 3, -2, 0}};
            for (int[] r : rows) {
                new Bench().give(r[0]).op(r[2], 22, 0, r[1], 0).op(r[3], 23, 0, r[1], 0).op(r[2], 24, 0, r[1], 0)
                    .op(r[3], 25, 0, r[1], 0);
            }
        });
        Sentence.holds("of the least number by -1 it itself, rest 0.", () -> {
            new Bench().give(MIN).op(MIN, 22, 0, -1, 0).op(0, 23, 0, -1, 0).op(1L << 31, 24, 0, -1, 0).op(0, 25, 0, -1, 0);
            new Bench().giveLong(LEAST).op(LEAST, 24, 0, -1, 0).op(0, 25, 0, -1, 0).op(0, 22, 0, -1, 0).op(0, 23, 0, -1, 0);
            new Bench().giveLong(MOST).op(-MOST, 24, 0, -1, 0).op(0, 25, 0, -1, 0).op(1, 22, 0, -1, 0);
        });
    }

    private static void raises() {
        Sentence.holds("26 RAISE: THING a as a LETTER, NEED a: it is thrown.", () -> {
            for (int sort = 0; sort < 7; sort++) {
                new Bench().op(0, 14, 31, sort, 0).op(Bench.BY_SORT[sort], 26, 31, 0, 0).op(Bench.BY_SORT[sort], 26, 31, 0, 0)
                    .count(2, 3)
                    .program(26, 31, 0, 0).run(Bench.BY_SORT[sort], 0, 9).count(3, 3).op(1, 27, 31, 15, 0);
            }
            Stock.full().op(Bench.CAST, 26, Stock.STONE, 0, 0).op(Bench.NULL, 26, NONE, 0, 0).op(Bench.INDEX, 26, 32, 0, 0)
                .op(Bench.INDEX, 26, -1, 0, 0);
        });
    }

    private static void sorts() {
        Sentence.holds("27 IS: PLACE a: 1 if what is there is, for b's lowest four bits 0 to 7, a ROW of this KIND, 8 a SHEET, 9 a CASE, 10 a CASE of DISCS, 11 a RACK, "
            + "12 a BOX, 13 a DISC, 14 what ROLLS, 15 a LETTER; else 0.", () -> {
                for (int place = 0; place <= NONE; place++) {
                    Bench bench = Stock.full();
                    for (int sort = 0; sort < 16; sort++) {
                        for (int b : new int[] {sort, sort + 16, sort - 16, sort | MIN, sort | MAX - 15}) {
                            bench.op(Stock.is(place, sort) ? 1 : 0, 27, place, b, 0);
                        }
                    }
                }
                new Bench().op(Bench.INDEX, 27, 32, 0, 0).op(Bench.INDEX, 27, -1, 0, 0);
            });
    }

    private static void places() {
        Sentence.holds("28 CLEAR: PLACE a: nothing is there.", () -> {
            // Elsewhere the thing stays: in a case, as a next one, at another place.
            Bench bench = Stock.full().op(0, 29, Stock.DISC, 25, 0).op(0, 28, Stock.DISC, 0, 0).op(0, 27, Stock.DISC, 13, 0)
                .op(1, 30, Stock.DISC, NONE, 0)
                .op(1, 27, 25, 13, 0).op(0, 18, Stock.STONE, 26, 0).op(1, 30, 26, 25, 0);
            Stock.cellsAre(bench, Stock.CASE, Stock.STONE, 25, NONE);
            bench.op(0, 28, Stock.DISC, 0, 0).op(0, 28, 31, 0, 0).op(Bench.INDEX, 28, 32, 0, 0).op(Bench.INDEX, 28, -1, 0, 0);
        });
        Sentence.holds("29 MOVE: PLACE b, PLACE a: what is at a (or nothing) is at b, too.", () -> Stock.full()
            .op(0, 29, Stock.STONE, 31, 0).op(1, 30, Stock.STONE, 31, 0).op(100, 15, 31, 0, 0).op(100, 15, Stock.STONE, 0, 0)
            .op(0, 29, NONE, 31, 0).op(1, 30, NONE, 31, 0).op(0, 29, Stock.STONE, Stock.STONE, 0).op(100, 15, Stock.STONE, 0, 0)
            .op(0, 29, NONE, NONE, 0).op(Bench.INDEX, 29, 32, 0, 0).op(Bench.INDEX, 29, 0, 32, 0).op(Bench.INDEX, 29, -1, 0, 0)
            .op(Bench.INDEX, 29, 0, -1, 0)
            .op(Bench.INDEX, 29, 32, 32, 0).op(1, 27, 0, 0, 0));
        Sentence.holds("30 SAME: PLACE a, PLACE b: 1 if they hold the very same THING, or both nothing; else 0.", () -> {
            for (int what : new int[] {0, 4, 9, 13, 14}) {
                // Two that are alike in all are not the very same one.
                new Bench().op(0, what, 0, 0, 0).op(0, what, 1, 0, 0).op(0, 30, 0, 1, 0).op(0, 29, 0, 2, 0).op(1, 30, 0, 2, 0)
                    .op(1, 30, 2, 0, 0).op(1, 30, 1, 1, 0)
                    .op(0, 30, 0, 31, 0).op(0, 30, 31, 0, 0).op(1, 30, 30, 31, 0).op(1, 30, 31, 31, 0);
            }
            new Bench().op(Bench.INDEX, 30, 32, 0, 0).op(Bench.INDEX, 30, 0, 32, 0).op(Bench.INDEX, 30, -1, 0, 0)
                .op(Bench.INDEX, 30, 0, -1, 0).op(Bench.INDEX, 30, 32, 32, 0);
        });
    }
}
