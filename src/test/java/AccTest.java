/** Promise 5: ACC, which calls of op leave alone. */
final class AccTest {
    public static void main(String[] args) {
        Bench bench = new Bench().acc(0).acc(0);
        for (int value : new int[] {1, -1, Integer.MAX_VALUE, Integer.MIN_VALUE, 0, 12}) {
            bench.give(value).acc(value);
        }
        bench.op(5, 0, 0, 0, 5).acc(12).op(12, 2, 0, 0, 0).acc(12).op(0, 1, 0, 0, 1).acc(12).op(4, 22, 0, 3, 0).acc(12);
        bench.op(Bench.ARITHMETIC, 22, 0, 0, 0).acc(12).op(-1, 41, 3, 0, 0).acc(12).op(-1, 77, 3, 0, 0).acc(12);
        bench.load("0", 0, 41, 9, 0, 0).acc(12).load(Bench.INDEX, 256, 41, 9, 0, 0).acc(12).count(-1, 9).acc(12);
        bench.run(1, 0, 0).acc(12).run(0, 256, 9).acc(12).run(1, 0, 1).acc(9);
        Bench.finish();
    }
}
