/** Promise 2, operations 4 to 8: sheets and their rows. */
final class SheetsTest {
    public static void main(String[] args) {
        sizes();
        cells();
        rows();
        faults();
        Bench.finish();
    }

    private static void sizes() {
        new Bench().op(0, 4, 0, 8, 8).op(0, 5, 0, 7, 7).op(Bench.INDEX, 5, 0, 8, 0).op(Bench.INDEX, 5, 0, 0, 8)
            .op(0, 4, 0, 9, 3).op(Bench.INDEX, 5, 0, 0, 0).op(0, 4, 0, 10, 18).op(Bench.INDEX, 5, 0, 0, 0)
            .op(Bench.INDEX, 5, 0, 1, 0).op(0, 4, 0, -9, -9).op(Bench.SIZE, 4, 0, -1, 2).op(Bench.SIZE, 4, 0, 2, -1)
            .op(Bench.SIZE, 4, 0, 0, -1).op(Bench.INDEX, 4, 32, -1, -1).count(4, 5);
    }

    private static void cells() {
        Bench bench = new Bench().op(0, 4, 3, 2, 3).give(-5).op(0, 6, 3, 1, 2).acc(-5).op(-5, 5, 3, 1, 2);
        bench.op(0, 5, 3, 0, 2).op(0, 5, 3, 1, 1).op(0, 6, 3, 0, 0).op(-5, 5, 3, 0, 0).op(0, 5, 3, 1, 0);
        // A cell is an int.
        bench.program(41, Integer.MAX_VALUE, 0, 0, 42, Integer.MAX_VALUE, 0, 0, 42, 2, 0, 0).run(0, 0, 9)
            .acc(4294967296L).op(0, 6, 3, 1, 2).op(0, 5, 3, 1, 2);
    }

    private static void rows() {
        Bench bench = new Bench().op(0, 4, 0, 2, 3).op(0, 7, 0, 1, 5).op(3, 3, 5, 0, 0).op(1, 27, 5, 0, 0);
        // A row that was taken out is still in the sheet.
        bench.give(8).op(8, 2, 5, 0, 0).op(8, 5, 0, 1, 0).op(0, 6, 0, 1, 1).op(8, 1, 5, 0, 1).count(1, 5);
        // One row may be in a sheet twice, and rows may differ in length.
        bench.op(50, 0, 6, 0, 50).op(0, 8, 0, 0, 6).op(0, 8, 0, 1, 6).op(0, 6, 0, 0, 49).op(8, 5, 0, 1, 49);
        bench.op(0, 7, 0, 1, 7).op(1, 30, 6, 7, 0).op(0, 30, 5, 7, 0);
        // Nothing may be in it, too, and nothing comes out again.
        bench.op(0, 8, 0, 0, 20).op(Bench.NULL, 5, 0, 0, 0).op(Bench.NULL, 6, 0, 0, 99).op(0, 7, 0, 0, 6).op(0, 27, 6, 0, 0);
    }

    private static void faults() {
        Bench bench = new Bench().op(0, 4, 0, 2, 3).op(2, 0, 1, 0, 2).op(2, 0, 2, 1, 2);
        for (int what = 5; what <= 6; what++) {
            bench.op(Bench.INDEX, what, 32, 0, 0).op(Bench.CAST, what, 1, 9, 9).op(Bench.NULL, what, 9, 9, 9);
            bench.op(Bench.INDEX, what, 0, 2, 0).op(Bench.INDEX, what, 0, -1, 0);
            bench.op(Bench.INDEX, what, 0, 0, 3).op(Bench.INDEX, what, 0, 0, -1);
        }
        bench.op(Bench.INDEX, 7, 1, 0, 32).op(Bench.CAST, 7, 1, 9, 4).op(Bench.NULL, 7, 9, 9, 4);
        bench.op(Bench.INDEX, 7, 0, 2, 4).op(Bench.INDEX, 7, 0, -1, 4).op(Bench.INDEX, 7, -1, 0, 4);
        bench.op(Bench.INDEX, 8, 32, 0, 2).op(Bench.CAST, 8, 1, 9, 32).op(Bench.INDEX, 8, 9, 0, 32);
        bench.op(Bench.CAST, 8, 9, 9, 2).op(Bench.NULL, 8, 9, 9, 1).op(Bench.INDEX, 8, 0, 2, 1).op(Bench.CAST, 8, 0, 0, 0);
        bench.op(2, 9, 3, 0, 2).op(Bench.CAST, 7, 3, 0, 4).op(Bench.CAST, 8, 3, 0, 1);
    }
}
