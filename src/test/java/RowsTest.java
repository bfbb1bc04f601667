/** Promise 2, operations 0 to 3: rows of all kinds. */
final class RowsTest {
    private static final int[] VALUES = {
        0, 1, -1, 127, 128, -128, -129, 255, 256, 32767, 32768, -32769, 65535, 65536, 16777216,
        16777217, 16777219, -16777217, -16777219, 2147483583, Integer.MAX_VALUE, Integer.MIN_VALUE};

    public static void main(String[] args) {
        for (int kind = 0; kind < 8; kind++) {
            cells(kind);
            faults(kind);
        }
        sizes();
        longsInCells();
        orderOfFaults();
        Bench.finish();
    }

    private static long asCell(int kind, long value) {
        switch (kind) {
            case 0: return (int) value;
            case 1: return value;
            case 2: return (short) value;
            case 3: return (byte) value;
            case 4: return (char) value;
            case 5: return value == 0 ? 0 : 1;
            case 6: return (long) (float) value;
            default: return (long) (double) value;
        }
    }

    private static void cells(int kind) {
        Bench bench = new Bench().op(3, 0, 4, kind, 3).op(0, 1, 4, kind, 0).op(0, 1, 4, kind, 2);
        for (int value : VALUES) {
            bench.give(value).op(value, 2, 4, kind, 1).acc(value).op(asCell(kind, value), 1, 4, kind, 1);
            bench.op(0, 1, 4, kind, 0).op(0, 1, 4, kind, 2);
        }
        // Kinds are taken by their lowest three bits.
        bench.op(3, 3, 4, kind + 8, 0).op(3, 3, 4, kind - 8, 0).op(99, 0, 5, kind - 80, 99).op(1, 27, 5, kind, 0);
    }

    private static void faults(int kind) {
        Bench bench = new Bench().op(2, 0, 0, kind, 2);
        for (int what = 1; what <= 3; what++) {
            bench.op(Bench.CAST, what, 0, kind + 1, 0).op(Bench.NULL, what, 1, kind, 0);
            bench.op(Bench.INDEX, what, -1, kind, 0).op(Bench.INDEX, what, 32, kind, 0);
        }
        for (int what = 1; what <= 2; what++) {
            bench.op(Bench.INDEX, what, 0, kind, 2).op(Bench.INDEX, what, 0, kind, -1);
            bench.op(Bench.INDEX, what, 0, kind, Integer.MIN_VALUE);
        }
        // A row, a sheet and a box are told apart.
        bench.op(0, 4, 2, 1, 1).op(Bench.CAST, 1, 2, kind, 0).op(0, 13, 3, 0, 0).op(Bench.CAST, 3, 3, kind, 0);
    }

    private static void sizes() {
        new Bench().op(99, 0, 0, 0, 99).op(0, 1, 0, 0, 98).op(Bench.INDEX, 1, 0, 0, 99)
            .op(0, 0, 0, 0, 100).op(Bench.INDEX, 1, 0, 0, 0).op(0, 3, 0, 0, 0)
            .op(47, 0, 0, 0, Integer.MAX_VALUE).op(0, 0, 0, 0, -100).op(0, 3, 0, 0, 0)
            .op(5, 0, 0, 2, 105).op(Bench.SIZE, 0, 0, 1, -1).op(Bench.SIZE, 0, 0, 1, -199)
            .op(Bench.SIZE, 0, 0, 1, Integer.MIN_VALUE)
            // What throws does nothing.
            .op(5, 3, 0, 2, 0).count(5, 5).count(5, 3);
    }

    private static void longsInCells() {
        // 150 times 2^31 - 1 and 1 more: more bits than an int or a float has.
        long big = 150L * Integer.MAX_VALUE + 1;
        Bench bench = new Bench().program(41, 1, 0, 0, 44, 1, 150, 0, 42, Integer.MAX_VALUE, 0, 0).run(0, 0, 200).acc(big);
        for (int kind = 0; kind < 8; kind++) {
            bench.op(1, 0, kind, kind, 1).op(big, 2, kind, kind, 0).op(asCell(kind, big), 1, kind, kind, 0);
        }
        // A long whose lowest 32 bits are all 0 is none the less not 0.
        new Bench().program(41, Integer.MIN_VALUE, 0, 0, 42, Integer.MIN_VALUE, 0, 0).run(0, 0, 9).acc(-4294967296L)
            .op(1, 0, 0, 5, 1).op(-4294967296L, 2, 0, 5, 0).op(1, 1, 0, 5, 0)
            .op(1, 0, 1, 0, 1).op(-4294967296L, 2, 1, 0, 0).op(0, 1, 1, 0, 0);
    }

    private static void orderOfFaults() {
        new Bench().op(Bench.INDEX, 0, 32, 0, -1).op(Bench.INDEX, 0, -1, 0, -1).op(Bench.INDEX, 1, 32, 0, -1)
            .op(1, 0, 0, 0, 1).op(Bench.CAST, 1, 0, 1, 9).op(Bench.NULL, 1, 1, 0, -1).count(5, 3);
    }
}
