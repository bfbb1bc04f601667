/** Promise 2, operations 9 to 12: cases, cases of discs, and racks. */
final class CasesTest {
    // Places: 0 a stone, 1 a disc, 2 a ball, 3 a drum, 4 a case, 5 one of discs, 6 a rack, 7 a row, 20 nothing.
    private static Bench furnished() {
        return new Bench().op(0, 13, 0, 0, 0).op(0, 13, 1, 1, 0).op(0, 13, 2, 2, 0).op(0, 13, 3, 3, 0)
            .op(3, 9, 4, 0, 3).op(3, 9, 5, 1, 3).op(3, 9, 6, 2, 3).op(3, 0, 7, 0, 3);
    }

    public static void main(String[] args) {
        sizesAndSorts();
        whatGoesIn();
        whatComesOut();
        orderOfFaults();
        Bench.finish();
    }

    private static void sizesAndSorts() {
        Bench bench = new Bench().op(39, 9, 0, 0, 39).op(0, 9, 0, 0, 40).op(0, 9, 0, 0, -40).op(1, 9, 0, 0, 41);
        bench.op(Bench.SIZE, 9, 0, 0, -1).op(Bench.INDEX, 9, 32, 0, -1).op(Bench.INDEX, 9, -1, 0, 1).count(4, 5);
        int[][] isOf = {{1, 0, 0}, {1, 1, 0}, {0, 0, 1}, {0, 0, 1}};
        for (int b = -8; b < 8; b++) {
            bench.op(2, 9, 1, b, 2).op(isOf[b & 3][0], 27, 1, 9, 0).op(isOf[b & 3][1], 27, 1, 10, 0);
            bench.op(isOf[b & 3][2], 27, 1, 11, 0).op(0, 27, 1, 8, 0);
        }
    }

    private static void whatGoesIn() {
        String[][] put = {{"0", "0", "0", Bench.CAST, Bench.CAST, "0"}, {Bench.STORE, "0", "0", Bench.CAST, Bench.CAST, "0"}};
        String[] hang = {Bench.CAST, "0", "0", "0", Bench.CAST, "0"};
        int[] things = {0, 1, 2, 3, 7, 20};
        Bench bench = furnished();
        for (int k = 0; k < things.length; k++) {
            bench.op(put[0][k], 10, 4, 1, things[k]).op(put[1][k], 10, 5, 1, things[k]).op(hang[k], 11, 6, 1, things[k]);
            bench.op(Bench.CAST, 10, 6, 1, things[k]).op(Bench.CAST, 11, 4, 1, things[k]).op(Bench.CAST, 11, 5, 1, things[k]);
        }
    }

    private static void whatComesOut() {
        Bench bench = furnished().op(0, 10, 4, 2, 0).op(0, 12, 4, 2, 8).op(1, 30, 0, 8, 0).op(0, 12, 4, 1, 8).op(0, 27, 8, 12, 0);
        bench.op(0, 10, 5, 0, 2).op(0, 12, 5, 0, 8).op(1, 30, 2, 8, 0);
        // A store that is refused leaves what is there; nothing takes its place.
        bench.op(Bench.STORE, 10, 5, 0, 0).op(0, 12, 5, 0, 8).op(1, 30, 2, 8, 0);
        bench.op(0, 10, 5, 0, 20).op(0, 12, 5, 0, 8).op(0, 27, 8, 12, 0).op(Bench.CAST, 12, 6, 0, 8);
        // What hangs in a rack is the very thing.
        bench.op(0, 11, 6, 0, 1).op(0, 31, 6, 4, 1).op(0, 12, 4, 0, 8).op(1, 30, 1, 8, 0);
    }

    private static void orderOfFaults() {
        Bench bench = furnished();
        for (int what = 10; what <= 11; what++) {
            bench.op(Bench.INDEX, what, 32, 0, 7).op(Bench.CAST, what, 7, 9, 32).op(Bench.INDEX, what, 20, 9, 32);
            bench.op(Bench.CAST, what, 20, 9, 7).op(Bench.NULL, what, 20, 9, 1);
        }
        bench.op(Bench.INDEX, 10, 5, 3, 0).op(Bench.INDEX, 10, 5, -1, 0).op(Bench.STORE, 10, 5, 2, 0);
        bench.op(Bench.INDEX, 11, 6, 3, 3).op(Bench.INDEX, 11, 6, -1, 3).op(Bench.CAST, 10, 4, 9, 3).op(Bench.CAST, 11, 6, 9, 0);
        bench.op(Bench.INDEX, 12, 7, 0, 32).op(Bench.CAST, 12, 7, 9, 8).op(Bench.NULL, 12, 20, 9, 8);
        bench.op(Bench.INDEX, 12, 4, 3, 8).op(Bench.INDEX, 12, 4, -1, 8).op(Bench.INDEX, 12, -1, 0, 8);
    }
}
