/** A mill with one thing of each sort, at places that bear its name, and what each operation does with them. */
final class Stock {
    // The places 0 to 7 hold rows of these kinds, three cells each: 0, 1, 0.
    static final int SHEET = 8;
    static final int CASE = 9;
    static final int DISC_CASE = 10;
    static final int RACK = 11;
    static final int STONE = 12;
    static final int DISC = 13;
    static final int BALL = 14;
    static final int DRUM = 15;
    static final int LETTER = 16;
    /** Row 1 of the sheet: 0, 0, 1. */
    static final int SHEET_ROW = 17;
    /** At this place and all behind it there is nothing. */
    static final int NOTHING = 20;
    static final int ACC = 5;

    private static final int SCRATCH = 31;
    private static final int SCRATCH_CASE = 30;

    /** One call of each operation that can be done on the stock: its number, a, b, c. */
    static final int[][] GOOD = {
        {0, 25, 3, 7}, {1, SHEET_ROW, 0, 2}, {2, SHEET_ROW, 0, 0}, {3, SHEET_ROW, 0, 0}, {4, 25, 2, 2}, {5, SHEET, 1, 2}, {6, SHEET, 1, 0},
        {7, SHEET, 1, 25}, {8, SHEET, 0, SHEET_ROW}, {9, 25, 1, 4}, {10, CASE, 2, STONE}, {11, RACK, 2, DRUM}, {12, CASE, 0, 25},
        {13, 25, 2, 0}, {14, 25, 3, 0}, {15, STONE, 0, 0}, {16, STONE, 0, 0}, {17, STONE, BALL, 0}, {18, STONE, 25, 0}, {19, STONE, 7, 0},
        {20, DRUM, 272, 0}, {21, DISC, 0, 0}, {22, 0, 2, 0}, {23, 0, 2, 0}, {24, 0, 2, 0}, {25, 0, 2, 0}, {26, LETTER, 0, 0},
        {27, STONE, 12, 0}, {28, STONE, 0, 0}, {29, STONE, 25, 0}, {30, STONE, STONE, 0}, {31, CASE, DISC_CASE, 1 << 16 | 2 << 8 | 1}};

    /** What they answer. */
    static final String[] ANSWERS = {
        "7", "1", "5", "3", "0", "1", "0", "0", "0", "4", "0", "0", "0", "0", "0", "100", "100", "0", "0", "307", "272", "200", "2", "1", "2",
        "1", Bench.STATE, "1", "0", "0", "1", "0"};

    /** The arguments (1 a, 2 b, 3 c) that are looked at as places, by operations. */
    static final int[][] PLACES = {
        {1}, {1}, {1}, {1}, {1}, {1}, {1}, {1, 3}, {1, 3}, {1}, {1, 3}, {1, 3}, {1, 3}, {1}, {1}, {1}, {1}, {1, 2}, {1, 2}, {1}, {1}, {1},
        {}, {}, {}, {}, {1}, {1}, {1}, {1, 2}, {1, 2}, {1, 2}};

    /** The arguments that are looked at as things of a sort: operation, argument, sort (numbered as by operation 27). */
    static final int[][] SORTS = {
        {1, 1, 0}, {2, 1, 0}, {3, 1, 0}, {5, 1, 8}, {6, 1, 8}, {7, 1, 8}, {8, 1, 8}, {8, 3, 0}, {10, 1, 9}, {10, 3, 12}, {11, 1, 11},
        {11, 3, 14}, {12, 1, 9}, {15, 1, 12}, {16, 1, 12}, {17, 1, 12}, {17, 2, 12}, {18, 1, 12}, {19, 1, 12}, {20, 1, 14}, {21, 1, 13},
        {26, 1, 15}};

    /** The arguments that are looked at as cells: operation, argument, how many cells there are. */
    static final int[][] CELLS = {
        {1, 3, 3}, {2, 3, 3}, {5, 2, 2}, {5, 3, 3}, {6, 2, 2}, {6, 3, 3}, {7, 2, 2}, {8, 2, 2}, {10, 2, 3}, {11, 2, 3}, {12, 2, 3}};

    private static final int[][] SORTS_AT = {
        {0}, {1}, {2}, {3}, {4}, {5}, {6}, {7}, {8}, {9}, {9, 10}, {11}, {12}, {12, 13, 14}, {12, 13, 14}, {14}, {15}, {0}};

    private Stock() {
    }

    static boolean is(int place, int sort) {
        if (place < SORTS_AT.length) {
            for (int each : SORTS_AT[place]) {
                if (each == sort) {
                    return true;
                }
            }
        }
        return false;
    }

    /** The good call of an operation, with one argument (1 a, 2 b, 3 c) changed. */
    static int[] changed(int what, int argument, int value) {
        int[] call = GOOD[what].clone();
        call[argument] = value;
        return call;
    }

    static Bench full() {
        Bench bench = new Bench().give(1);
        for (int kind = 0; kind < 8; kind++) {
            bench.op(3, 0, kind, kind, 3).op(1, 2, kind, kind, 1);
        }
        bench.op(0, 4, SHEET, 2, 3).op(0, 6, SHEET, 1, 2).op(0, 7, SHEET, 1, SHEET_ROW);
        bench.op(3, 9, CASE, 0, 3).op(3, 9, DISC_CASE, 1, 3).op(3, 9, RACK, 2, 3).op(0, 14, LETTER, 6, 0);
        for (int sort = 0; sort < 4; sort++) {
            bench.give(100 * (sort + 1)).op(0, 13, STONE + sort, sort, 0);
        }
        bench.op(0, 10, CASE, 0, STONE).op(0, 10, CASE, 1, DISC).op(0, 10, DISC_CASE, 0, DISC).op(0, 11, RACK, 1, BALL);
        return bench.op(0, 17, STONE, DISC, 0).give(ACC).count(17, 5);
    }

    /** Looks whether all is as it was; {@code SCRATCH} and the place before it are cleared. */
    static void isWhole(Bench bench) {
        bench.acc(ACC).count(17, 5);
        for (int place = 0; place < SCRATCH; place++) {
            int sort = place < SORTS_AT.length ? SORTS_AT[place][0] : -1;
            if (sort < 0) {
                bench.op(1, 30, place, SCRATCH, 0);
            } else {
                bench.op(1, 27, place, sort, 0);
            }
        }
        for (int kind = 0; kind < 8; kind++) {
            bench.op(3, 3, kind, kind, 0).op(0, 1, kind, kind, 0).op(1, 1, kind, kind, 1).op(0, 1, kind, kind, 2);
        }
        for (int cell = 0; cell < 3; cell++) {
            bench.op(0, 5, SHEET, 0, cell).op(cell / 2, 5, SHEET, 1, cell);
        }
        bench.op(0, 7, SHEET, 1, SCRATCH).op(1, 30, SCRATCH, SHEET_ROW, 0);
        int[] values = {100, 200, 300};
        for (int k = 0; k < 3; k++) {
            bench.op(values[k], 15, STONE + k, 0, 0);
        }
        bench.op(200, 21, DISC, 0, 0).op(300, 21, BALL, 0, 0).op(400, 20, DRUM, -1, 0).op(Bench.STATE, 26, LETTER, 0, 0);
        cellsAre(bench, CASE, STONE, DISC, NOTHING);
        cellsAre(bench, DISC_CASE, DISC, NOTHING, NOTHING);
        bench.op(3, 9, SCRATCH_CASE, 0, 3).op(0, 31, RACK, SCRATCH_CASE, 3);
        cellsAre(bench, SCRATCH_CASE, NOTHING, BALL, NOTHING);
        int[] next = {DISC, NOTHING, NOTHING};
        for (int k = 0; k < 3; k++) {
            bench.op(0, 18, STONE + k, SCRATCH, 0).op(1, 30, SCRATCH, next[k], 0);
        }
        bench.op(0, 28, SCRATCH, 0, 0).op(0, 28, SCRATCH_CASE, 0, 0);
    }

    /** Looks whether a case holds what is at these places. */
    static void cellsAre(Bench bench, int shelf, int... places) {
        for (int k = 0; k < places.length; k++) {
            bench.op(0, 12, shelf, k, SCRATCH).op(1, 30, SCRATCH, places[k], 0);
        }
        bench.op(0, 28, SCRATCH, 0, 0);
    }
}
