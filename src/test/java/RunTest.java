/** Promise 4: programs, their ends, FUEL, and the operations 40 to 44. */
final class RunTest {
    public static void main(String[] args) {
        endsAndFuel();
        answersInAcc();
        sums();
        ifs();
        repeats();
        bounds();
        depth();
        exceptionsLetOut();
        Bench.finish();
    }

    private static void endsAndFuel() {
        Bench bench = new Bench().program(42, 1, 0, 0, 42, 1, 0, 0);
        bench.run(1, 0, 0).acc(0).count(0, 4).run(1, 0, -1).acc(0).count(0, 4).run(1, 0, Integer.MIN_VALUE).count(0, 0);
        bench.run(1, 0, 1).acc(1).count(0, 4).run(1, 0, 2).acc(3).count(0, 4).run(0, 0, 3).acc(5).count(0, 4).run(0, 0, 4).acc(7).count(1, 4);
        bench.run(0, 0, 200).count(197, 4).run(0, 0, 201).count(197, 4).run(0, 0, Integer.MAX_VALUE).count(197, 4).run(0, 1, 5).acc(14).count(3, 4);
        // From nowhere: the end at once, all FUEL left.
        for (int from : new int[] {-1, 256, Integer.MIN_VALUE, Integer.MAX_VALUE}) {
            bench.run(0, from, 9).count(9, 4).run(0, from, 300).count(200, 4).run(0, from, -3).count(0, 4).run(0, from, 0);
        }
        // Behind 255: no FUEL is needed to end.
        bench.load("255", 255, 42, 1, 0, 0).acc(14).run(0, 255, 1).acc(15).count(0, 4).run(1, 255, 0).run(0, 255, 7).count(6, 4);
    }

    private static void answersInAcc() {
        Bench bench = new Bench().program(41, 9, 0, 0, 0, 2, 1, 6).run(0, 0, 9).acc(6).op(6, 3, 2, 1, 0);
        bench.program(41, 9, 0, 0, 2, 2, 1, 4).run(0, 0, 9).acc(9).program(1, 2, 1, 4).run(0, 0, 9).acc(9);
        // Where no answer is told it is 0; numbers that are none give -1.
        bench.program(41, 9, 0, 0, 28, 2, 0, 0).run(0, 0, 9).acc(0);
        for (int what : new int[] {-1, 32, 39, 46, Integer.MIN_VALUE, Integer.MAX_VALUE}) {
            bench.program(41, 9, 0, 0, what, 99, 99, 99).run(0, 0, 9).acc(-1);
        }
        bench.program(41, 35, 0, 0, 13, 0, 0, 0, 41, 7, 0, 0, 16, 0, 0, 0).run(0, 0, 9).acc(35).op(7, 15, 0, 0, 0).op(0, 4, 1, 2, 2)
            .program(41, 35, 0, 0, 6, 1, 1, 1).run(0, 0, 9).acc(0).op(35, 5, 1, 1, 1)
            .program(41, 35, 0, 0, 22, 0, -4, 0).run(0, 0, 9).acc(-8);
    }

    private static void sums() {
        new Bench().program(41, Integer.MAX_VALUE, 0, 0, 42, Integer.MAX_VALUE, 0, 0).run(0, 0, 9).acc(4294967294L)
            .program(41, Integer.MIN_VALUE, 0, 0, 42, -1, 0, 0).run(0, 0, 9).acc(-2147483649L).counts(6, 0, 0, 0, 6, 0)
            .program(40, 1, 1, 1, 41, 5, 0, 0).run(0, 0, 9).acc(-2147483649L).count(8, 4);
    }

    private static void ifs() {
        for (int value : new int[] {-1, Integer.MIN_VALUE, 0, 1}) {
            boolean left = value < 0;
            for (int a : new int[] {Integer.MIN_VALUE, -1, 0, 1, 2, 3}) {
                int skipped = left ? Math.max(a, 0) : 0;
                Bench bench = new Bench().program(41, value, 0, 0, 43, a, 0, 0, 42, 100, 0, 0, 42, 1000, 0, 0, 40, 0, 0, 0, 42, 7, 0, 0);
                long[] sums = {1100, 1000, 0, 7};
                bench.run(0, 0, 20).acc(value + sums[skipped]).count(20 - (skipped == 3 ? 4 : 5 - skipped), 4);
            }
            new Bench().program(41, value, 0, 0, 43, Integer.MAX_VALUE, 0, 0, 42, 100, 0, 0).run(0, 0, 20)
                .acc(left ? value : value + 100L).count(left ? 2 : 4, 0);
        }
    }

    private static void repeats() {
        for (int b : new int[] {Integer.MIN_VALUE, -1, 0, 1, 2, 50}) {
            int times = Math.max(b, 0);
            new Bench().program(44, 2, b, 0, 42, 1, 0, 0, 42, 10, 0, 0, 42, 1000, 0, 0).run(0, 0, 200).acc(11L * times + 1000)
                .counts(3 + 2 * times, 0, 0, 0, 200 - 3 - 2 * times, 0);
        }
        // Nothing is done very often: it ends, and takes one FUEL.
        for (int a : new int[] {0, -1, Integer.MIN_VALUE}) {
            new Bench().program(44, a, Integer.MAX_VALUE, 0, 42, 1, 0, 0).run(0, 0, 9).acc(1).counts(3, 0, 0, 0, 6, 0);
        }
        // FUEL that is lacking within, just enough of it, and STOP within.
        new Bench().program(44, 1, Integer.MAX_VALUE, 0, 42, 1, 0, 0).run(1, 0, 200).acc(199).counts(200, 0, 0, 0, 0, 0);
        new Bench().program(44, 1, 3, 0, 42, 1, 0, 0).run(1, 0, 3).acc(2).counts(3, 0, 0, 0, 0, 0).run(1, 0, 4).acc(5).run(0, 0, 5).acc(8);
        new Bench().program(44, 2, 5, 0, 42, 1, 0, 0, 40, 0, 0, 0, 42, 50, 0, 0).run(0, 0, 9).acc(1).counts(3, 0, 0, 0, 6, 0);
        // A REPEAT in a REPEAT: its turns begin anew.
        new Bench().program(44, 3, 4, 0, 44, 1, 3, 0, 42, 1, 0, 0, 42, 100, 0, 0).run(0, 0, 200).acc(412).counts(1 + 4 * 5 + 1, 0, 0, 0, 178, 0);
        new Bench().program(44, 2, 4, 0, 44, 1, 3, 0, 42, 1, 0, 0, 42, 100, 0, 0).run(0, 0, 200).acc(112).count(1 + 4 * 4 + 2, 0);
        // An operation that throws ends the turns.
        new Bench().program(44, 2, 5, 0, 42, 1, 0, 0, 22, 0, 0, 0).run(Bench.ARITHMETIC, 0, 200).acc(1).counts(1, 0, 0, 1, 197, 0);
    }

    private static void bounds() {
        // What would go beyond the operations that it is among goes to their end.
        new Bench().program(44, 2, 3, 0, 44, 9, 2, 0, 42, 1, 0, 0, 42, 100, 0, 0).run(0, 0, 99).acc(106);
        new Bench().program(44, 3, 2, 0, 42, -9, 0, 0, 43, 99, 0, 0, 42, 5000, 0, 0, 42, 1000, 0, 0).run(0, 0, 99).acc(982).count(1 + 4 + 2, 0);
        new Bench().program(44, 2, 2, 0, 45, 9, 0, 0, 42, 1, 0, 0, 22, 0, 0, 0).run(Bench.ARITHMETIC, 0, 99).acc(2);
        // As does what would go beyond the program.
        new Bench().load("254", 254, 44, Integer.MAX_VALUE, 3, 0).load("255", 255, 42, 1, 0, 0).run(0, 254, 9).acc(3).counts(4, 0, 0, 0, 5, 0);
        new Bench().load("255", 255, 44, 5, 3, 0).run(0, 255, 1).counts(1, 0, 0, 0, 0, 0);
        new Bench().load("255", 255, 45, 5, 6, 0).run(0, 255, 1).counts(1, 0, 1, 0, 0, 0);
        new Bench().load("254", 254, 41, -1, 0, 0).load("255", 255, 43, 5, 0, 0).run(0, 254, 2).acc(-1);
        new Bench().load("254", 254, 45, 5, 4, 0).load("255", 255, 22, 0, 0, 0).run(0, 254, 2).acc(-1).counts(1, 1, 0, 0, 0, 0);
    }

    private static void depth() {
        // As many blocks in one another as there is FUEL for.
        for (int what = 44; what <= 45; what++) {
            Bench bench = new Bench();
            for (int k = 0; k < 256; k++) {
                bench.load(Integer.toString(k), k, what, 255, 6, 0);
            }
            bench.run(1, 0, 200).counts(200, 0, what == 45 ? 200 : 0, 0, 0, 0);
            bench.run(what == 45 ? 0 : 1, 57, 200).count(what == 45 ? 1 : 0, 4);
        }
        Bench caught = new Bench();
        for (int k = 0; k < 198; k++) {
            caught.load(Integer.toString(k), k, 45, 255, k == 0 ? 4 : 6, 0);
        }
        caught.load("198", 198, 22, 0, 0, 0).run(0, 0, 200).acc(-1).counts(1, 1, 197, 0, 1, 0);
    }

    private static void exceptionsLetOut() {
        for (int sort = 0; sort < 7; sort++) {
            new Bench().op(0, 14, 0, sort, 0).program(41, 5, 0, 0, 26, 0, 0, 0, 41, 6, 0, 0).run(Bench.BY_SORT[sort], 0, 9)
                .acc(5).counts(2, 0, 0, 1, 7, 1).run(0, 2, 9).acc(6).counts(4, 0, 0, 1, 7, 1);
        }
    }
}
