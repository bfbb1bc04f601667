/** Promise 2: after 6,000 things no more are made, and that is looked at before all else. */
final class LimitTest {
    public static void main(String[] args) {
        // 30 runs of 199 things each, by operations of all five sorts.
        int[] makers = {0, 4, 9, 13, 14};
        Bench bench = new Bench();
        int made = 0;
        for (int k = 0; k < 30; k++) {
            bench.program(44, 1, 199, 0, makers[k % 5], 3, 8, 8).run(1, 0, 200);
            made += 199;
            bench.count(made, 5);
        }
        for (; made < 6000; made++) {
            bench.op("0", 13, 4, 0, 0);
        }
        bench.count(6000, 5);
        for (int what : makers) {
            bench.op(Bench.STATE, what, 5, 0, 1).op(Bench.STATE, what, 99, -1, -1);
        }
        bench.count(6000, 5).op(0, 27, 5, 12, 0).op(1, 27, 4, 12, 0).op(0, 29, 4, 5, 0);
        // A program can catch it.
        bench.program(45, 1, 7, 0, 13, 0, 0, 0).run(0, 0, 9).acc(-7).count(1, 1);
        bench.program(45, 1, 0, 0, 13, 0, 0, 0).run(Bench.STATE, 0, 9);
        Bench.finish();
    }
}
