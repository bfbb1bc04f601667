/** Promise 2, operations 13 and 15 to 21: stones, discs, balls and drums. */
final class BoxesTest {
    public static void main(String[] args) {
        sorts();
        for (int value : new int[] {0, 1, -1, 77, 1000000007, Integer.MAX_VALUE, Integer.MIN_VALUE}) {
            for (int b : new int[] {0, 1, -1, 5, Integer.MAX_VALUE, Integer.MIN_VALUE}) {
                weights(value, b);
            }
        }
        changes();
        links();
        faults();
        Bench.finish();
    }

    private static void sorts() {
        int[][] isOf = {{1, 0, 0}, {1, 1, 1}, {1, 1, 1}, {0, 0, 1}};
        Bench bench = new Bench();
        for (int b = -8; b < 8; b++) {
            bench.op(0, 13, 0, b, 0);
            for (int sort = 0; sort < 16; sort++) {
                bench.op(sort >= 12 && sort <= 14 ? isOf[b & 3][sort - 12] : 0, 27, 0, sort, 0);
            }
        }
        bench.count(16, 5).op(Bench.INDEX, 13, 32, 0, 0).op(Bench.INDEX, 13, -1, 0, 0).count(16, 5);
    }

    private static void weights(int value, int b) {
        Bench bench = new Bench().give(value);
        for (int sort = 0; sort < 4; sort++) {
            bench.op(0, 13, sort, sort, 0);
        }
        bench.give(3).op(value * 3 + b, 19, 0, b, 0).op(value * 5 - b, 19, 1, b, 0).op(value * 5 - b + 1, 19, 2, b, 0);
        bench.op(value ^ b, 20, 1, b, 0).op(value | b, 20, 2, b, 0).op(value & b, 20, 3, b, 0);
        bench.op(value, 15, 0, b, 0).op(value, 15, 1, b, 0).op(value, 15, 2, b, 0);
    }

    private static void changes() {
        Bench bench = new Bench().give(4).op(0, 13, 0, 0, 0).op(0, 13, 1, 1, 0).op(0, 13, 2, 2, 0).give(-6);
        for (int place = 0; place < 3; place++) {
            bench.op(4, 16, place, 0, 0).op(-6, 15, place, 0, 0).op(-6, 16, place, 0, 0).acc(-6);
        }
        // The rim stays as it was made.
        bench.op(4, 21, 1, 0, 0).op(4, 21, 2, 0, 0).op(-6 ^ 3, 20, 1, 3, 0).op(-29, 19, 2, 0, 0);
        // Values are ACC's lowest 32 bits.
        bench.program(41, Integer.MAX_VALUE, 0, 0, 42, Integer.MAX_VALUE, 0, 0, 42, 5, 0, 0).run(0, 0, 9).acc(4294967299L)
            .op(-6, 16, 0, 0, 0).op(3, 15, 0, 0, 0).op(0, 13, 5, 1, 0).op(3, 15, 5, 0, 0).op(3, 21, 5, 0, 0);
    }

    private static void links() {
        Bench bench = new Bench().op(0, 13, 0, 0, 0).op(0, 13, 1, 1, 0).op(0, 18, 0, 9, 0).op(0, 27, 9, 12, 0);
        bench.op(0, 17, 0, 1, 0).op(0, 18, 0, 9, 0).op(1, 30, 1, 9, 0).op(0, 18, 1, 9, 0).op(0, 27, 9, 12, 0);
        // A box may follow itself, and nothing may follow it again.
        bench.op(0, 17, 0, 0, 0).op(0, 18, 0, 9, 0).op(1, 30, 0, 9, 0).op(0, 17, 0, 20, 0).op(0, 18, 0, 9, 0).op(1, 30, 9, 20, 0);
        // Following into its own place.
        bench.op(0, 17, 0, 1, 0).op(0, 18, 0, 0, 0).op(1, 30, 0, 1, 0);
    }

    private static void faults() {
        // 0 a stone, 1 a disc, 3 a drum, 7 a row, 20 nothing.
        Bench bench = new Bench().op(0, 13, 0, 0, 0).op(0, 13, 1, 1, 0).op(0, 13, 3, 3, 0).op(1, 0, 7, 0, 1);
        for (int what = 15; what <= 21; what++) {
            String drum = what == 20 ? "0" : Bench.CAST;
            bench.op(Bench.INDEX, what, 32, 0, 0).op(Bench.INDEX, what, -1, 0, 0).op(Bench.CAST, what, 7, 0, 0);
            bench.op(Bench.NULL, what, 20, 0, 0).op(drum, what, 3, 0, 0);
        }
        bench.op(Bench.CAST, 20, 0, 0, 0).op(Bench.CAST, 21, 0, 0, 0);
        bench.op(Bench.CAST, 17, 7, 32, 0).op(Bench.INDEX, 17, 20, 32, 0).op(Bench.CAST, 17, 20, 3, 0).op(Bench.CAST, 17, 0, 7, 0);
        bench.op(Bench.INDEX, 18, 7, 32, 0).op(Bench.INDEX, 18, 20, -1, 0).op(Bench.CAST, 18, 7, 0, 0);
    }
}
