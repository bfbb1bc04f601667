/** Operations 0 to 8: rows and sheets. */
final class RowSentences {
    private static final int NONE = Stock.NOTHING;

    private RowSentences() {
    }

    static void all() {
        rows();
        sheets();
        wholeRows();
    }

    private static void rows() {
        Sentence.holds("0 ROW: PLACE a, SIZE c % 100: a new ROW of KIND b, all 0, is at a; answer its length.", () -> {
            for (int kind = 0; kind < 8; kind++) {
                for (int length : new int[] {0, 1, 99}) {
                    Bench bench = new Bench().op(length, 0, 31, kind, length).op(1, 27, 31, kind, 0).op(length, 3, 31, kind, 0)
                        .count(1, 5);
                    for (int c = 0; c < length; c++) {
                        bench.op(0, 1, 31, kind, c);
                    }
                    bench.op(Bench.INDEX, 1, 31, kind, length);
                }
            }
            new Bench().op(0, 0, 0, 0, 100).op(Bench.SIZE, 0, 0, 0, -1).op(Bench.INDEX, 0, 32, 0, 1).op(Bench.INDEX, 0, -1, 0, 1)
                .count(1, 5);
            // A new one: it takes the place of the old one, which stays as it was elsewhere.
            Stock.full().op(0, 29, 0, 25, 0).op(5, 0, 0, 0, 5).op(0, 30, 0, 25, 0).op(3, 3, 25, 0, 0).op(1, 1, 25, 0, 1)
                .op(0, 1, 0, 0, 1);
        });
        Sentence.holds("1 GET: THING a as a ROW of KIND b, NEED a, INDEX c: the cell.", () -> {
            for (int kind = 0; kind < 8; kind++) {
                Stock.full().op(0, 1, kind, kind, 0).op(1, 1, kind, kind, 1).op(0, 1, kind, kind, 2).op(Bench.INDEX, 1, kind, kind, 3)
                    .op(Bench.INDEX, 1, kind, kind, -1).op(Bench.CAST, 1, kind, kind + 1, 0).op(Bench.NULL, 1, NONE, kind, 0)
                    .op(Bench.INDEX, 1, 32, kind, 0);
            }
        });
        Sentence.holds("2 SET: likewise: ACC becomes the cell; ACC.", () -> {
            for (int kind = 0; kind < 8; kind++) {
                long low = kind == 5 ? 1 : kind == 4 ? 65533 : -3;
                Stock.full().give(-3).op(-3, 2, kind, kind, 0).op(-3, 2, kind, kind, 2).acc(-3).op(low, 1, kind, kind, 0)
                    .op(1, 1, kind, kind, 1).op(low, 1, kind, kind, 2)
                    .op(Bench.INDEX, 2, kind, kind, 3).op(Bench.INDEX, 2, kind, kind, -1).op(Bench.CAST, 2, kind, kind + 1, 0)
                    .op(Bench.NULL, 2, NONE, kind, 0).op(Bench.INDEX, 2, 32, kind, 0);
                // The answer is ACC whole, not what the cell can hold.
                Stock.full().giveLong(Long.MAX_VALUE - 1).op(Long.MAX_VALUE - 1, 2, kind, kind, 0).acc(Long.MAX_VALUE - 1);
                Stock.full().program(41, 300, 0, 0, 2, kind, kind, 0).run(0, 0, 9).acc(300);
            }
        });
        Sentence.holds("3 LENGTH: THING a as a ROW of KIND b, NEED a: its length.", () -> {
            for (int kind = 0; kind < 8; kind++) {
                new Bench().op(0, 0, 1, kind, 0).op(0, 3, 1, kind, 9).op(99, 0, 2, kind, 99).op(99, 3, 2, kind, -9)
                    .op(Bench.CAST, 3, 1, kind + 1, 0)
                    .op(Bench.NULL, 3, 3, kind, 0).op(Bench.INDEX, 3, 32, kind, 0).op(Bench.INDEX, 3, -1, kind, 0);
            }
        });
    }

    private static void sheets() {
        Sentence.holds("4 SHEET: PLACE a, SIZE b % 9, SIZE c % 9: so many ROWS of so many ints.", () -> {
            for (int height : new int[] {0, 1, 8}) {
                for (int width : new int[] {0, 1, 8}) {
                    Bench bench = new Bench().op(0, 4, 31, height, width).op(1, 27, 31, 8, 0).count(1, 5);
                    for (int b = 0; b < height; b++) {
                        bench.op(0, 7, 31, b, 1).op(width, 3, 1, 0, 0).op(0, 30, 1, 2, 0).op(0, 29, 1, 2, 0)
                            .op(Bench.INDEX, 5, 31, b, width);
                        for (int c = 0; c < width; c++) {
                            bench.op(0, 5, 31, b, c);
                        }
                    }
                    bench.op(Bench.INDEX, 7, 31, height, 1);
                }
            }
            new Bench().op(Bench.INDEX, 4, 32, 1, 1).op(Bench.INDEX, 4, -1, 1, 1).op(Bench.SIZE, 4, 0, -1, 1)
                .op(Bench.SIZE, 4, 0, 1, -1).count(0, 5);
        });
        Sentence.holds("5 CELL: THING a as a SHEET, NEED a, INDEX b, NullPointerException if no ROW is there, INDEX c: the cell.", () -> {
            Stock.full().op(1, 5, Stock.SHEET, 1, 2).op(0, 5, Stock.SHEET, 0, 0).op(Bench.INDEX, 5, Stock.SHEET, 2, 0)
                .op(Bench.INDEX, 5, Stock.SHEET, -1, 0)
                .op(Bench.INDEX, 5, Stock.SHEET, 0, 3).op(Bench.INDEX, 5, Stock.SHEET, 0, -1).op(Bench.CAST, 5, 0, 0, 0)
                .op(Bench.NULL, 5, NONE, 0, 0)
                .op(0, 8, Stock.SHEET, 0, NONE).op(Bench.NULL, 5, Stock.SHEET, 0, 0).op(Bench.NULL, 5, Stock.SHEET, 0, -1)
                .op(1, 5, Stock.SHEET, 1, 2);
            // The row that is there tells which cells it has.
            Stock.full().op(99, 0, 25, 0, 99).op(0, 8, Stock.SHEET, 0, 25).op(0, 5, Stock.SHEET, 0, 98)
                .op(Bench.INDEX, 5, Stock.SHEET, 0, 99)
                .op(0, 0, 25, 0, 0).op(0, 8, Stock.SHEET, 0, 25).op(Bench.INDEX, 5, Stock.SHEET, 0, 0);
        });
        Sentence.holds("6 MARK: likewise: ACC becomes the cell.", () -> {
            Stock.full().op(0, 6, Stock.SHEET, 0, 2).acc(Stock.ACC).op(Stock.ACC, 5, Stock.SHEET, 0, 2).op(0, 5, Stock.SHEET, 0, 1)
                .op(1, 5, Stock.SHEET, 1, 2)
                .op(Bench.INDEX, 6, Stock.SHEET, 2, 0).op(Bench.INDEX, 6, Stock.SHEET, -1, 0).op(Bench.INDEX, 6, Stock.SHEET, 0, 3)
                .op(Bench.INDEX, 6, Stock.SHEET, 0, -1)
                .op(Bench.CAST, 6, 0, 0, 0).op(Bench.NULL, 6, NONE, 0, 0).op(0, 8, Stock.SHEET, 0, NONE)
                .op(Bench.NULL, 6, Stock.SHEET, 0, 0).op(Bench.NULL, 6, Stock.SHEET, 0, 3);
            // The lowest 32 bits: a cell is an int.
            Stock.full().giveLong((1L << 32) + (1L << 31)).op(0, 6, Stock.SHEET, 0, 0).op(Integer.MIN_VALUE, 5, Stock.SHEET, 0, 0);
        });
    }

    private static void wholeRows() {
        Sentence.holds("7 ROW OUT: PLACE c, THING a as a SHEET, NEED a, INDEX b: what is there is at c, too.", () -> {
            Stock.full().op(0, 7, Stock.SHEET, 1, 25).op(1, 30, 25, Stock.SHEET_ROW, 0).op(1, 5, Stock.SHEET, 1, 2)
                .op(5, 2, 25, 0, 0).op(5, 5, Stock.SHEET, 1, 0)
                .op(Bench.INDEX, 7, Stock.SHEET, 2, 25).op(Bench.INDEX, 7, Stock.SHEET, -1, 25)
                .op(Bench.INDEX, 7, Stock.SHEET, 0, 32).op(Bench.INDEX, 7, Stock.SHEET, 0, -1)
                .op(Bench.CAST, 7, Stock.CASE, 0, 25).op(Bench.NULL, 7, NONE, 0, 25);
            // Nothing comes out, too; and a row takes its own sheet's place.
            Stock.full().op(0, 8, Stock.SHEET, 0, NONE).op(0, 7, Stock.SHEET, 0, Stock.STONE).op(1, 30, Stock.STONE, NONE, 0)
                .op(0, 7, Stock.SHEET, 1, Stock.SHEET).op(1, 30, Stock.SHEET, Stock.SHEET_ROW, 0);
        });
        Sentence.holds("8 ROW IN: THING a as a SHEET, THING c as a ROW of ints, NEED a, INDEX b: what is at c (or nothing) is there, too.", () -> {
            Stock.full().op(0, 8, Stock.SHEET, 0, 0).op(1, 5, Stock.SHEET, 0, 1).op(1, 27, 0, 0, 0).op(5, 2, 0, 0, 2)
                .op(5, 5, Stock.SHEET, 0, 2)
                .op(0, 8, Stock.SHEET, 0, NONE).op(Bench.NULL, 5, Stock.SHEET, 0, 1).op(0, 8, Stock.SHEET, 0, 0)
                .op(1, 5, Stock.SHEET, 0, 1)
                .op(Bench.INDEX, 8, Stock.SHEET, 2, 0).op(Bench.INDEX, 8, Stock.SHEET, -1, 0).op(Bench.INDEX, 8, Stock.SHEET, 0, 32)
                .op(Bench.INDEX, 8, Stock.SHEET, 0, -1)
                .op(Bench.CAST, 8, Stock.CASE, 0, 0).op(Bench.CAST, 8, Stock.SHEET, 0, 1)
                .op(Bench.CAST, 8, Stock.SHEET, 0, Stock.SHEET)
                .op(Bench.NULL, 8, NONE, 0, 0).op(Bench.NULL, 8, NONE, 0, NONE);
        });
    }
}
