/** Promise 2, operations 14 and 22 to 30, and the numbers that are no operations of a call. */
final class NumbersAndLettersTest {
    public static void main(String[] args) {
        divisions();
        longDivisions();
        letters();
        places();
        otherNumbers();
        Bench.finish();
    }

    private static void divisions() {
        int[] sides = {0, 1, -1, 7, -7, 100, -100, Integer.MAX_VALUE, Integer.MIN_VALUE};
        for (int left : sides) {
            Bench bench = new Bench().give(left);
            for (int what = 22; what <= 25; what++) {
                bench.op(Bench.ARITHMETIC, what, 0, 0, 0).acc(left);
            }
            for (int b : sides) {
                if (b != 0) {
                    bench.op(left / b, 22, 99, b, 0).op(left % b, 23, -1, b, 0);
                    bench.op((long) left / b, 24, 99, b, 0).op((long) left % b, 25, -1, b, 0);
                }
            }
        }
    }

    private static void longDivisions() {
        Bench bench = new Bench().program(41, 3, 0, 0, 44, 1, 100, 0, 42, Integer.MIN_VALUE, 0, 0).run(0, 0, 200);
        long left = 3 + 100L * Integer.MIN_VALUE;
        bench.acc(left).op(left / 7, 24, 0, 7, 0).op(left % 7, 25, 0, 7, 0).op((int) left / 7, 22, 0, 7, 0)
            .op((int) left % 7, 23, 0, 7, 0).op(-left, 24, 0, -1, 0).op(0, 25, 0, -1, 0);
    }

    private static void letters() {
        Bench bench = new Bench();
        for (int sort = 0; sort < 7; sort++) {
            for (int b : new int[] {sort, -sort, sort + 7, -sort - 7, sort + 700}) {
                bench.op(0, 14, 3, b, 0).op(1, 27, 3, 15, 0).op(0, 27, 3, 12, 0).op(Bench.BY_SORT[sort], 26, 3, 0, 0);
            }
            // A letter can be thrown again.
            bench.op(Bench.BY_SORT[sort], 26, 3, 0, 0);
        }
        bench.op(0, 14, 3, Integer.MIN_VALUE, 0).op(Bench.ARITHMETIC, 26, 3, 0, 0);
        bench.op(0, 14, 3, Integer.MAX_VALUE, 0).op(Bench.BY_SORT[Integer.MAX_VALUE % 7], 26, 3, 0, 0);
        bench.op(Bench.INDEX, 14, 32, 0, 0).op(Bench.INDEX, 26, 32, 0, 0).op(Bench.INDEX, 26, -1, 0, 0);
        bench.op(Bench.NULL, 26, 9, 0, 0).op(0, 13, 9, 0, 0).op(Bench.CAST, 26, 9, 0, 0).count(38, 5);
    }

    private static void places() {
        Bench bench = new Bench().op(2, 0, 31, 3, 2).op(1, 27, 31, 3 + 16, 0).op(0, 27, 31, 4, 0).op(1, 27, 31, 3 - 16, 0);
        bench.op(0, 29, 31, 0, 0).op(1, 30, 0, 31, 0).op(2, 3, 0, 3, 0).op(0, 30, 0, 1, 0).op(1, 30, 1, 2, 0);
        bench.op(0, 28, 31, 0, 0).op(0, 27, 31, 3, 0).op(1, 27, 0, 3, 0).op(0, 29, 31, 0, 0).op(0, 27, 0, 3, 0);
        // Two rows that are alike are not the same.
        bench.op(2, 0, 0, 3, 2).op(2, 0, 1, 3, 2).op(0, 30, 0, 1, 0).op(1, 30, 1, 1, 0);
        for (int x : new int[] {-1, 32, Integer.MIN_VALUE, Integer.MAX_VALUE}) {
            bench.op(Bench.INDEX, 27, x, 0, 0).op(Bench.INDEX, 28, x, 0, 0).op(Bench.INDEX, 29, x, 0, 0)
                .op(Bench.INDEX, 29, 0, x, 0).op(Bench.INDEX, 30, x, 0, 0).op(Bench.INDEX, 30, 0, x, 0);
        }
        bench.op(2, 3, 0, 3, 0);
    }

    private static void otherNumbers() {
        Bench bench = new Bench().give(-9);
        int[] none = {-1, 32, 39, 40, 41, 42, 43, 44, 45, 46, 1000, Integer.MIN_VALUE, Integer.MAX_VALUE};
        for (int what : none) {
            bench.op(-1, what, 99, 2, 3).acc(-9);
        }
        bench.counts(2 + none.length, 0, 0, 0, 0, 0);
    }
}
