/** Promise 2, operation 31: copies between rows, sheets, cases and racks. */
final class CopyTest {
    private static int span(int i, int j, int n) {
        return (i & 255) << 16 | (j & 255) << 8 | (n & 255);
    }

    public static void main(String[] args) {
        rowsOfAllKinds();
        overlaps();
        spans();
        whatIsNoRow();
        thingsThatCannotCome();
        sheets();
        Bench.finish();
    }

    private static Bench counted(int place, int kind, int length) {
        Bench bench = new Bench().op(length, 0, place, kind, length);
        for (int k = 0; k < length; k++) {
            bench.give(k + 1).op(k + 1, 2, place, kind, k);
        }
        return bench;
    }

    private static void rowsOfAllKinds() {
        for (int kind = 0; kind < 8; kind++) {
            long high = kind == 5 ? 1 : 3;
            Bench bench = counted(0, kind, 4).op(5, 0, 1, kind, 5).op(0, 31, 0, 1, span(2, 1, 2));
            bench.op(0, 1, 1, kind, 0).op(high, 1, 1, kind, 1).op(kind == 5 ? 1 : 4, 1, 1, kind, 2).op(0, 1, 1, kind, 3);
            for (int other = 0; other < 8; other++) {
                bench.op(1, 0, 2, other, 1).op(other == kind ? "0" : Bench.STORE, 31, 0, 2, span(0, 0, 1));
                // Kinds are looked at before the spans.
                bench.op(other == kind ? Bench.INDEX : Bench.STORE, 31, 0, 2, span(0, 0, -1));
            }
        }
    }

    private static void overlaps() {
        Bench up = counted(0, 0, 5).op(0, 31, 0, 0, span(0, 1, 4));
        Bench down = counted(0, 0, 5).op(0, 31, 0, 0, span(1, 0, 4));
        for (int k = 0; k < 5; k++) {
            up.op(Math.max(k, 1), 1, 0, 0, k);
            down.op(Math.min(k + 2, 5), 1, 0, 0, k);
        }
        for (int sort = 0; sort < 3; sort++) {
            Bench bench = new Bench().op(3, 9, 0, sort, 3).op(0, 13, 1, 1, 0).op(0, 13, 2, 2, 0);
            int put = sort == 2 ? 11 : 10;
            bench.op(0, put, 0, 0, 1).op(0, put, 0, 1, 2).op(0, 31, 0, 0, span(0, 1, 2)).op(3, 9, 3, 0, 3).op(0, 31, 0, 3, span(0, 0, 3));
            bench.op(0, 12, 3, 0, 4).op(1, 30, 4, 1, 0).op(0, 12, 3, 1, 4).op(1, 30, 4, 1, 0).op(0, 12, 3, 2, 4).op(1, 30, 4, 2, 0);
        }
    }

    private static void spans() {
        Bench bench = counted(0, 0, 3).op(5, 0, 1, 0, 5);
        bench.op(0, 31, 0, 1, span(0, 0, 3)).op(0, 31, 0, 1, span(3, 5, 0)).op(0, 31, 0, 1, span(0, 2, 3));
        int[][] beyond = {{0, 0, 4}, {1, 0, 3}, {0, 3, 3}, {4, 0, 0}, {0, 6, 0}, {-1, 0, 1}, {0, -1, 1}, {0, 0, -1},
            {-1, 0, 0}, {0, -1, 0}, {-128, 0, 127}, {127, 127, 127}, {1, 1, -1}};
        for (int[] s : beyond) {
            bench.op(Bench.INDEX, 31, 0, 1, span(s[0], s[1], s[2]));
        }
        // Bits 24 to 31 are of no account.
        bench.op(0, 31, 0, 1, span(0, 4, 1) | 0x7f000000).op(1, 1, 1, 0, 4).op(0, 31, 0, 1, span(1, 4, 1) | 0x80000000).op(2, 1, 1, 0, 4);
        // The same for things.
        bench.op(2, 9, 2, 0, 2).op(3, 9, 3, 2, 3).op(Bench.INDEX, 31, 2, 3, span(0, 0, 3)).op(Bench.INDEX, 31, 3, 2, span(0, 0, 3))
            .op(Bench.INDEX, 31, 2, 3, span(0, 0, -1)).op(0, 31, 2, 3, span(0, 1, 2)).op(Bench.INDEX, 31, 2, 3, span(0, 2, 2))
            .op(Bench.INDEX, 31, 2, 2, span(1, 0, 2)).op(0, 31, 2, 2, span(2, 2, 0));
    }

    private static void whatIsNoRow() {
        // 0 a row, 1 a sheet, 2 a case, 3 a rack, 4 to 6 no rows, 20 nothing.
        Bench bench = new Bench().op(2, 0, 0, 0, 2).op(0, 4, 1, 2, 2).op(2, 9, 2, 0, 2).op(2, 9, 3, 2, 2)
            .op(0, 13, 4, 0, 0).op(0, 13, 5, 3, 0).op(0, 14, 6, 0, 0);
        for (int row = 0; row < 4; row++) {
            for (int other = 4; other < 7; other++) {
                bench.op(Bench.STORE, 31, row, other, 0).op(Bench.STORE, 31, other, row, 0).op(Bench.STORE, 31, other, other, 255);
            }
            bench.op(Bench.NULL, 31, row, 20, 255).op(Bench.NULL, 31, 20, row, 255).op(Bench.INDEX, 31, 32, row, 0).op(Bench.INDEX, 31, row, 32, 0);
            bench.op(row == 0 ? "0" : Bench.STORE, 31, 0, row, 0).op(row == 0 ? "0" : Bench.STORE, 31, row, 0, 0);
        }
        bench.op(Bench.NULL, 31, 4, 20, 0).op(Bench.NULL, 31, 20, 4, 0).op(Bench.INDEX, 31, 20, 32, 0).op(Bench.INDEX, 31, 32, 20, 0);
    }

    private static void thingsThatCannotCome() {
        // 0 a case of ball, stone, disc; 1 a case of discs; 2 a rack.
        Bench bench = new Bench().op(3, 9, 0, 0, 3).op(3, 9, 1, 1, 3).op(3, 9, 2, 2, 3)
            .op(0, 13, 10, 2, 0).op(0, 13, 11, 0, 0).op(0, 13, 12, 1, 0).op(0, 13, 13, 3, 0)
            .op(0, 10, 0, 0, 10).op(0, 10, 0, 1, 11).op(0, 10, 0, 2, 12);
        // Those before it have come, those behind it have not.
        bench.op(Bench.STORE, 31, 0, 1, span(0, 0, 3)).op(0, 12, 1, 0, 5).op(1, 30, 5, 10, 0)
            .op(0, 12, 1, 1, 5).op(1, 30, 5, 20, 0).op(0, 12, 1, 2, 5).op(1, 30, 5, 20, 0);
        bench.op(Bench.STORE, 31, 0, 2, span(1, 0, 2)).op(0, 31, 0, 2, span(2, 0, 1)).op(0, 11, 2, 1, 13);
        // From the rack: the disc can be in a case, the drum can't.
        bench.op(Bench.STORE, 31, 2, 0, span(0, 0, 3)).op(0, 12, 0, 0, 5).op(1, 30, 5, 12, 0).op(0, 12, 0, 1, 5).op(1, 30, 5, 11, 0);
        // Nothing can be anywhere, and takes the place of what was there.
        bench.op(0, 31, 2, 0, span(2, 0, 1)).op(0, 12, 0, 0, 5).op(1, 30, 5, 20, 0);
        bench.op(0, 31, 1, 0, span(0, 1, 1)).op(0, 12, 0, 1, 5).op(1, 30, 5, 10, 0).count(3, 3);
    }

    private static void sheets() {
        Bench bench = new Bench().op(0, 4, 0, 2, 2).op(0, 4, 1, 3, 1).op(0, 31, 0, 1, span(0, 1, 2)).op(0, 7, 0, 0, 5).op(0, 7, 1, 1, 6).op(1, 30, 5, 6, 0);
        bench.op(3, 9, 2, 0, 3).op(3, 9, 3, 3, 3).op(0, 13, 7, 1, 0).op(0, 10, 2, 1, 7).op(0, 11, 3, 1, 7);
        for (int place = 2; place <= 3; place++) {
            bench.op(Bench.STORE, 31, 0, place, span(1, 0, 1)).op(0, 31, place, 0, span(0, 0, 1)).op(Bench.NULL, 5, 0, 0, 0)
                .op(0, 31, 0, place, span(0, 0, 1)).op(Bench.STORE, 31, place, 0, span(1, 1, 1)).op(0, 5, 0, 1, 0);
        }
        // Within one sheet.
        bench.op(0, 31, 0, 0, span(1, 0, 1)).op(0, 7, 0, 0, 5).op(0, 7, 0, 1, 6).op(1, 30, 5, 6, 0);
    }
}
