/** Operation 31. */
final class CopySentences {
    private static final int NONE = Stock.NOTHING;

    private CopySentences() {
    }

    static int span(int i, int j, int n) {
        return (i & 255) << 16 | (j & 255) << 8 | (n & 255);
    }

    static void all() {
        spans();
        Sentence.holds("PLACE a, PLACE b, NEED a, NEED b;", () -> {
            for (int x : new int[] {-1, 32, Integer.MIN_VALUE, Integer.MAX_VALUE}) {
                Stock.full().op(Bench.INDEX, 31, x, 0, 0).op(Bench.INDEX, 31, 0, x, 0).op(Bench.INDEX, 31, x, NONE, 0)
                    .op(Bench.INDEX, 31, NONE, x, 0).op(Bench.INDEX, 31, x, x, 0);
            }
            for (int place = 0; place <= Stock.SHEET_ROW; place++) {
                Stock.full().op(Bench.NULL, 31, place, NONE, 0).op(Bench.NULL, 31, NONE, place, 0)
                    .op(Bench.NULL, 31, place, NONE, 255);
            }
            Stock.full().op(Bench.NULL, 31, NONE, NONE, 0);
        });
        Sentence.holds("ArrayStoreException if one of them is no row (ROW, SHEET, CASE, RACK), or one is a ROW and the other is no ROW of its KIND;", () -> {
            for (int a = 0; a <= Stock.LETTER; a++) {
                for (int b = 0; b <= Stock.LETTER; b++) {
                    boolean bothShelves = a >= Stock.SHEET && a <= Stock.RACK && b >= Stock.SHEET && b <= Stock.RACK;
                    boolean can = bothShelves || a == b && a < 8;
                    Stock.full().op(can ? "0" : Bench.STORE, 31, a, b, 0).op(can ? Bench.INDEX : Bench.STORE, 31, a, b, 255);
                }
            }
        });
        Sentence.holds("ArrayIndexOutOfBoundsException if i, j or n is below 0, or i + n or j + n beyond the rows;", CopySentences::beyond);
        cells();
        refused();
    }

    /** A row of so many ints at a place, with 1, 2, 3 and so on in it. */
    private static Bench counted(Bench bench, int place, int length) {
        bench.op(length, 0, place, 0, length);
        for (int k = 0; k < length; k++) {
            bench.give(k + 1).op(k + 1, 2, place, 0, k);
        }
        return bench;
    }

    private static void cellsAre(Bench bench, int place, int... values) {
        for (int k = 0; k < values.length; k++) {
            bench.op(values[k], 1, place, 0, k);
        }
    }

    private static void spans() {
        Sentence.holds("31 COPY, with c's bits 16 to 23, 8 to 15, 0 to 7, each as a byte with its sign, as i, j, n:", () -> {
            // Each of i, j and n by itself; bits 24 to 31 are of no account.
            for (int high : new int[] {0, 1 << 24, 127 << 24, 128 << 24, 255 << 24}) {
                cellsAre(counted(new Bench(), 0, 4).op(4, 0, 1, 0, 4).op(0, 31, 0, 1, high | 0x020001), 1, 3, 0, 0, 0);
                cellsAre(counted(new Bench(), 0, 4).op(4, 0, 1, 0, 4).op(0, 31, 0, 1, high | 0x000201), 1, 0, 0, 1, 0);
                cellsAre(counted(new Bench(), 0, 4).op(4, 0, 1, 0, 4).op(0, 31, 0, 1, high | 0x000003), 1, 1, 2, 3, 0);
            }
            // 128 to 255 are below 0, so none of them is beyond a row of 99 by being large: all are refused alike.
            Bench bench = new Bench().op(99, 0, 0, 0, 99).op(99, 0, 1, 0, 99);
            for (int x : new int[] {128, 200, 255}) {
                bench.op(Bench.INDEX, 31, 0, 1, x << 16).op(Bench.INDEX, 31, 0, 1, x << 8).op(Bench.INDEX, 31, 0, 1, x);
            }
            bench.op(0, 31, 0, 1, 98 << 16 | 1).op(0, 31, 0, 1, 98 << 8 | 1).op(0, 31, 0, 1, 99);
        });
    }

    private static void beyond() {
        // Rows of 3 and of 5 cells: ints, and cases.
        Bench bench = new Bench().op(3, 0, 0, 0, 3).op(5, 0, 1, 0, 5).op(3, 9, 2, 0, 3).op(5, 9, 3, 2, 5).op(0, 4, 4, 3, 1)
            .op(0, 4, 5, 5, 1);
        int[][] refused = {{-1, 0, 0}, {0, -1, 0}, {0, 0, -1}, {-1, 0, 1}, {0, -1, 1}, {1, 1, -1}, {-128, 0, 127}, {0, -128, 127}, {127, 127, -128}, {0, 0, 4}, {1, 0, 3},
            {3, 0, 1}, {4, 0, 0}, {0, 3, 3}, {0, 5, 1}, {0, 6, 0}, {127, 0, 127}, {0, 127, 127}, {127, 127, 127}};
        int[][] done = {{0, 0, 0}, {3, 5, 0}, {3, 0, 0}, {0, 5, 0}, {0, 0, 3}, {0, 2, 3}, {2, 4, 1}};
        for (int from = 0; from <= 4; from += 2) {
            for (int[] s : refused) {
                bench.op(Bench.INDEX, 31, from, from + 1, span(s[0], s[1], s[2]))
                    .op(Bench.INDEX, 31, from + 1, from, span(s[1], s[0], s[2]));
            }
            for (int[] s : done) {
                bench.op(0, 31, from, from + 1, span(s[0], s[1], s[2])).op(0, 31, from + 1, from, span(s[1], s[0], s[2]));
            }
        }
        // Within one row.
        for (int place = 0; place <= 5; place++) {
            int length = place % 2 == 0 ? 3 : 5;
            bench.op(0, 31, place, place, span(0, 0, length)).op(0, 31, place, place, span(length, length, 0));
            int[][] within = {{-1, 0, 1}, {0, -1, 1}, {0, 0, -1}, {1, 1, -1}, {0, 0, length + 1}, {1, 0, length}, {0, 1, length}, {length + 1, 0, 0}, {0, length + 1, 0}};
            for (int[] s : within) {
                bench.op(Bench.INDEX, 31, place, place, span(s[0], s[1], s[2]));
            }
        }
        // Rows without cells.
        new Bench().op(0, 0, 0, 0, 0).op(0, 31, 0, 0, 0).op(Bench.INDEX, 31, 0, 0, 1).op(0, 9, 1, 0, 0).op(0, 31, 1, 1, 0)
            .op(Bench.INDEX, 31, 1, 1, 1)
            .op(Bench.INDEX, 31, 1, 1, span(1, 0, 0)).op(Bench.INDEX, 31, 0, 0, span(0, 1, 0));
        // What is refused so leaves all as it was, though a part of it could have come.
        cellsAre(counted(counted(new Bench(), 0, 3), 1, 2).op(Bench.INDEX, 31, 0, 1, 3)
            .op(Bench.INDEX, 31, 0, 1, span(2, 0, 2)), 1, 1, 2);
    }

    private static void cells() {
        Sentence.holds("then the n cells from i on come to those from j on, as they were before:", () -> {
            cellsAre(counted(new Bench(), 0, 5).op(0, 31, 0, 0, span(0, 1, 4)), 0, 1, 1, 2, 3, 4);
            cellsAre(counted(new Bench(), 0, 5).op(0, 31, 0, 0, span(1, 0, 4)), 0, 2, 3, 4, 5, 5);
            cellsAre(counted(new Bench(), 0, 5).op(0, 31, 0, 0, span(0, 0, 5)), 0, 1, 2, 3, 4, 5);
            cellsAre(counted(new Bench(), 0, 5).op(0, 31, 0, 0, span(1, 3, 2)), 0, 1, 2, 3, 2, 3);
            cellsAre(counted(new Bench(), 0, 5).op(0, 31, 0, 0, span(4, 0, 0)), 0, 1, 2, 3, 4, 5);
            Bench two = counted(new Bench().op(5, 0, 1, 0, 5), 0, 5).op(0, 31, 0, 1, span(2, 1, 3));
            cellsAre(two, 1, 0, 3, 4, 5, 0);
            cellsAre(two, 0, 1, 2, 3, 4, 5);
            for (int sort = 0; sort < 3; sort++) {
                overlap(sort, 0, 1, 0, 0, 1);
                overlap(sort, 1, 0, 1, 2, 2);
            }
            everyKind();
        });
    }

    /** Three things in a case or rack, two of them moved within it, and which of the three its cells then hold. */
    private static void overlap(int sort, int i, int j, int... which) {
        int put = sort == 2 ? 11 : 10;
        Bench bench = new Bench().op(3, 9, 0, sort, 3).op(0, 13, 1, 1, 0).op(0, 13, 2, 2, 0).op(0, 13, 3, 1, 0);
        bench.op(0, put, 0, 0, 1).op(0, put, 0, 1, 2).op(0, put, 0, 2, 3).op(0, 31, 0, 0, span(i, j, 2)).op(3, 9, 4, 0, 3)
            .op(0, 31, 0, 4, 3);
        Stock.cellsAre(bench, 4, which[0] + 1, which[1] + 1, which[2] + 1);
    }

    private static void everyKind() {
        for (int kind = 0; kind < 8; kind++) {
            long[] ends = {Integer.MIN_VALUE, Long.MIN_VALUE + 1, -32768, -128, 65535, 1, Long.MAX_VALUE, Long.MAX_VALUE};
            new Bench().op(2, 0, 0, kind, 2).op(2, 0, 1, kind, 2).giveLong(ends[kind]).op(ends[kind], 2, 0, kind, 1)
                .op(0, 31, 0, 1, span(1, 0, 1))
                .op(ends[kind], 1, 1, kind, 0).op(0, 1, 1, kind, 1).op(ends[kind], 1, 0, kind, 1);
        }
    }

    private static void refused() {
        Sentence.holds("ArrayStoreException at the first that can't be in the other row (in SHEETS ROWS of ints alone, in CASES BOXES or DISCS, in RACKS what ROLLS; nothing can), "
            + "those before it have come.", () -> {
                pairs();
                partly();
            });
    }

    /** One thing, in each sort of row that can hold it, to each sort of row. */
    private static void pairs() {
        int[] things = {Stock.SHEET_ROW, Stock.STONE, Stock.DISC, Stock.BALL, Stock.DRUM, NONE};
        // Which of them can be in a sheet, a case, a case of discs, a rack.
        boolean[][] can = {{true, false, false, false, false, true}, {false, true, true, true, false, true}, {false, false, true, true, false, true},
            {false, false, true, true, true, true}};
        int[] put = {8, 10, 10, 11};
        for (int from = 0; from < 4; from++) {
            for (int to = 0; to < 4; to++) {
                for (int k = 0; k < things.length; k++) {
                    if (can[from][k]) {
                        Bench bench = Stock.full().op(0, 4, 21, 2, 1).op(2, 9, 22, 0, 2).op(2, 9, 23, 1, 2).op(2, 9, 24, 2, 2);
                        bench.op(0, put[from], 21 + from, 1, things[k])
                            .op(can[to][k] ? "0" : Bench.STORE, 31, 21 + from, Stock.SHEET + to, span(1, 0, 1));
                    }
                }
            }
        }
    }

    private static void partly() {
        // A ball, nothing, a stone, a disc: to discs the first two come; the last stays out, though it could be there.
        Bench bench = Stock.full().op(4, 9, 25, 0, 4).op(0, 10, 25, 0, Stock.BALL).op(0, 10, 25, 2, Stock.STONE)
            .op(0, 10, 25, 3, Stock.DISC)
            .op(4, 9, 26, 1, 4).op(0, 10, 26, 1, Stock.DISC).op(0, 10, 26, 2, Stock.DISC).op(0, 10, 26, 3, Stock.BALL);
        bench.op(Bench.STORE, 31, 25, 26, 4).count(1, 3);
        Stock.cellsAre(bench, 26, Stock.BALL, NONE, Stock.DISC, Stock.BALL);
        Stock.cellsAre(bench, 25, Stock.BALL, NONE, Stock.STONE, Stock.DISC);
        // The very first: none comes. The very last: all but it. Those before i are not looked at.
        bench.op(Bench.STORE, 31, 25, 26, span(2, 0, 2));
        Stock.cellsAre(bench, 26, Stock.BALL, NONE, Stock.DISC, Stock.BALL);
        bench.op(Bench.STORE, 31, 25, 26, span(0, 1, 3));
        Stock.cellsAre(bench, 26, Stock.BALL, Stock.BALL, NONE, Stock.BALL);
        bench.op(0, 31, 25, 26, span(3, 0, 1));
        Stock.cellsAre(bench, 26, Stock.DISC, Stock.BALL, NONE, Stock.BALL);
        // In a program, where it is caught, as well.
        bench.program(45, 1, 3, 0, 31, 25, 26, 3).run(0, 0, 9).acc(-6);
        Stock.cellsAre(bench, 26, Stock.BALL, NONE, NONE, Stock.BALL);
    }
}
