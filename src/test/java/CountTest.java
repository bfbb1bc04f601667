/** Promise 6: the six counts, and -1 for others. */
final class CountTest {
    public static void main(String[] args) {
        Bench bench = new Bench().counts(0, 0, 0, 0, 0, 0);
        for (int what : new int[] {-1, 6, 7, Integer.MIN_VALUE, Integer.MAX_VALUE}) {
            bench.count(-1, what);
        }
        // Calls: done, or let out.
        bench.op(3, 0, 0, 0, 3).counts(1, 0, 0, 0, 0, 1).op(Bench.NULL, 1, 1, 0, 0).counts(1, 0, 0, 1, 0, 1);
        bench.op(-1, 40, 0, 0, 0).op(-1, 45, 0, 0, 0).op(-1, -7, 0, 0, 0).counts(4, 0, 0, 1, 0, 1);
        bench.load(Bench.INDEX, -1, 0, 0, 0, 0).load("0", 0, 40, 0, 0, 0).counts(4, 0, 0, 1, 0, 1);
        // Programs: all numbers.
        bench.program(41, 1, 0, 0, 42, 1, 0, 0, 43, 1, 0, 0, 44, 1, 2, 0, 99, 0, 0, 0, 45, 1, 6, 0, 28, 0, 0, 0).run(0, 0, 50)
            .counts(4 + 9, 0, 1, 1, 41, 1);
        // What is left out is not done.
        bench.program(41, -1, 0, 0, 43, 1, 0, 0, 42, 1, 0, 0).run(0, 0, 50).counts(16, 0, 1, 1, 47, 1);
        // Caught, and let out.
        bench.program(45, 1, 0, 0, 22, 0, 0, 0).run(0, 0, 50).counts(18, 1, 1, 1, 47, 1);
        bench.program(45, 1, 6, 0, 22, 0, 0, 0).run(Bench.ARITHMETIC, 0, 50).counts(18, 1, 2, 2, 48, 1);
        // Things: of each maker one, a sheet too; those that throw none.
        bench.op(0, 4, 0, 8, 8).op(4, 9, 0, 0, 4).op(0, 13, 0, 0, 0).op(0, 14, 0, 0, 0).counts(22, 1, 2, 2, 48, 5);
        bench.op(Bench.SIZE, 4, 0, 0, -1).op(Bench.INDEX, 13, 32, 0, 0).counts(22, 1, 2, 4, 48, 5);
        // The latest run counts for the FUEL, calls of op don't.
        bench.run(1, 0, 0).op(1, 27, 0, 15, 0).counts(23, 1, 2, 4, 0, 5).run(0, -1, 30).counts(23, 1, 2, 4, 30, 5);
        Bench.finish();
    }
}
