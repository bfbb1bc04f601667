/** Operations 9 to 12: cases and racks. */
final class CaseSentences {
    private static final int NONE = Stock.NOTHING;

    private CaseSentences() {
    }

    static void all() {
        Sentence.holds("9 CASE: PLACE a, SIZE c % 40: by b's lowest two bits 0 a CASE, 1 one of DISCS, 2 and 3 a RACK, with nothing in it; answer its length.", () -> {
            int[][] sorts = {{1, 0, 0}, {1, 1, 0}, {0, 0, 1}, {0, 0, 1}};
            for (int b : new int[] {0, 1, 2, 3, 4, 5, 6, 7, -1, -2, -3, -4, Integer.MIN_VALUE, Integer.MAX_VALUE}) {
                for (int length : new int[] {0, 1, 39}) {
                    Bench bench = new Bench().op(length, 9, 31, b, length).count(1, 5);
                    for (int sort = 9; sort <= 11; sort++) {
                        bench.op(sorts[b & 3][sort - 9], 27, 31, sort, 0);
                    }
                    holdsNothing(bench, b, length);
                }
            }
            new Bench().op(0, 9, 0, 0, 40).op(Bench.SIZE, 9, 0, 0, -1).op(Bench.INDEX, 9, 32, 0, 1).op(Bench.INDEX, 9, -1, 0, 1)
                .count(1, 5);
        });
        Sentence.holds("10 PUT: THING a as a CASE, THING c as a BOX, NEED a, INDEX b, ArrayStoreException if that is a BOX that is no DISC and the CASE is one of DISCS: "
            + "it is there, too.", CaseSentences::put);
        Sentence.holds("11 HANG: likewise with a RACK and what ROLLS (no ArrayStoreException).", CaseSentences::hang);
        Sentence.holds("12 TAKE: PLACE c, THING a as a CASE, NEED a, INDEX b: what is there is at c, too.", () -> {
            Stock.full().op(0, 12, Stock.CASE, 0, 25).op(1, 30, 25, Stock.STONE, 0).op(0, 12, Stock.CASE, 0, 26)
                .op(1, 30, 26, Stock.STONE, 0)
                .op(0, 12, Stock.DISC_CASE, 0, 25).op(1, 30, 25, Stock.DISC, 0)
                .op(Bench.INDEX, 12, Stock.CASE, 3, 25).op(Bench.INDEX, 12, Stock.CASE, -1, 25)
                .op(Bench.INDEX, 12, Stock.CASE, 0, 32).op(Bench.INDEX, 12, Stock.CASE, 0, -1)
                .op(Bench.CAST, 12, Stock.RACK, 1, 25).op(Bench.CAST, 12, Stock.SHEET, 1, 25).op(Bench.NULL, 12, NONE, 0, 25);
            // Nothing is taken, too; and what is in a case takes the case's own place.
            Stock.full().op(0, 12, Stock.CASE, 2, Stock.STONE).op(1, 30, Stock.STONE, NONE, 0).op(0, 12, Stock.CASE, 1, Stock.CASE)
                .op(1, 30, Stock.CASE, Stock.DISC, 0);
        });
    }

    /** Looks through a copy, since nothing is taken out of a rack. */
    private static void holdsNothing(Bench bench, int b, int length) {
        bench.op(0, 13, 29, 0, 0).op(39, 9, 30, 0, 39);
        for (int k = 0; k < length; k++) {
            bench.op(0, 10, 30, k, 29);
        }
        bench.op(0, 31, 31, 30, length);
        for (int k = 0; k < length; k++) {
            bench.op(0, 12, 30, k, 28).op(1, 30, 28, 27, 0);
        }
        bench.op(Bench.INDEX, 31, 31, 30, length + 1 & 127).op(Bench.INDEX, (b & 2) == 0 ? 10 : 11, 31, length, 27);
    }

    private static void put() {
        for (int place = Stock.STONE; place <= Stock.BALL; place++) {
            Bench bench = Stock.full().op(0, 10, Stock.CASE, 2, place);
            Stock.cellsAre(bench, Stock.CASE, Stock.STONE, Stock.DISC, place);
            bench.op(0, 10, Stock.CASE, 0, place);
            Stock.cellsAre(bench, Stock.CASE, place, Stock.DISC, place);
        }
        Bench discs = Stock.full().op(0, 10, Stock.DISC_CASE, 2, Stock.BALL).op(0, 10, Stock.DISC_CASE, 1, Stock.DISC)
            .op(Bench.STORE, 10, Stock.DISC_CASE, 0, Stock.STONE);
        Stock.cellsAre(discs, Stock.DISC_CASE, Stock.DISC, Stock.DISC, Stock.BALL);
        discs.op(0, 10, Stock.DISC_CASE, 0, NONE).op(Bench.STORE, 10, Stock.DISC_CASE, 0, Stock.STONE);
        Stock.cellsAre(discs, Stock.DISC_CASE, NONE, Stock.DISC, Stock.BALL);
        for (int shelf = Stock.CASE; shelf <= Stock.DISC_CASE; shelf++) {
            Stock.full().op(Bench.INDEX, 10, shelf, 3, Stock.STONE).op(Bench.INDEX, 10, shelf, -1, Stock.STONE)
                .op(Bench.INDEX, 10, shelf, 3, NONE)
                .op(Bench.INDEX, 10, shelf, 0, 32).op(Bench.CAST, 10, shelf, 0, Stock.DRUM).op(Bench.CAST, 10, shelf, 0, Stock.CASE);
        }
        Stock.full().op(Bench.CAST, 10, Stock.RACK, 0, Stock.DISC).op(Bench.NULL, 10, NONE, 0, Stock.STONE)
            .op(Bench.NULL, 10, NONE, 0, NONE);
    }

    private static void hang() {
        for (int place : new int[] {Stock.DISC, Stock.BALL, Stock.DRUM, NONE}) {
            Bench bench = Stock.full().op(0, 11, Stock.RACK, 0, place).op(0, 11, Stock.RACK, 2, place);
            // What hangs there is seen by a copy; of a drum, that it can't be in a case.
            bench.op(place == Stock.DRUM ? Bench.STORE : "0", 31, Stock.RACK, Stock.CASE, 1);
            Stock.cellsAre(bench, Stock.CASE, place == Stock.DRUM ? Stock.STONE : place, Stock.DISC, NONE);
        }
        Stock.full().op(Bench.INDEX, 11, Stock.RACK, 3, Stock.DRUM).op(Bench.INDEX, 11, Stock.RACK, -1, Stock.DRUM)
            .op(Bench.INDEX, 11, Stock.RACK, 3, NONE)
            .op(Bench.INDEX, 11, Stock.RACK, 0, 32).op(Bench.INDEX, 11, 32, 0, Stock.DISC)
            .op(Bench.CAST, 11, Stock.RACK, 0, Stock.STONE)
            .op(Bench.CAST, 11, Stock.RACK, 0, Stock.RACK).op(Bench.CAST, 11, Stock.CASE, 0, Stock.DISC)
            .op(Bench.CAST, 11, Stock.DISC_CASE, 0, Stock.DRUM)
            .op(Bench.NULL, 11, NONE, 0, Stock.DRUM).op(Bench.NULL, 11, NONE, 0, NONE);
    }
}
