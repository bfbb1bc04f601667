/** Operations 13 to 21: boxes, drums and letters. */
final class BoxSentences {
    private static final int MIN = Integer.MIN_VALUE;
    private static final int MAX = Integer.MAX_VALUE;
    private static final int NONE = Stock.NOTHING;

    private BoxSentences() {
    }

    static void all() {
        making();
        values();
        links();
        weights();
    }

    private static void making() {
        Sentence.holds("13 BOX: PLACE a: by b's lowest two bits 0 a STONE, 1 a DISC, 2 a BALL, 3 a DRUM is at a;", () -> {
            // The sorts 12 to 14, and of value 6 with b 1 what is weighed (19) and rolled (20).
            String[][] looks = {{"1", "0", "0", "19", Bench.CAST}, {"1", "1", "1", "29", "7"}, {"1", "1", "1", "30", "7"}, {"0", "0", "1", Bench.CAST, "0"}};
            for (int b : new int[] {0, 1, 2, 3, 4, 5, 6, 7, -1, -2, -3, -4, MIN, MAX}) {
                String[] look = looks[b & 3];
                new Bench().give(6).op(0, 13, 31, b, -1).op(look[0], 27, 31, 12, 0).op(look[1], 27, 31, 13, 0)
                    .op(look[2], 27, 31, 14, 0)
                    .op(look[3], 19, 31, 1, 0).op(look[4], 20, 31, 1, 0).count(1, 5);
            }
            new Bench().give(6).op(0, 13, 0, 1, 0).op(4, 20, 0, 2, 0).op(0, 13, 0, 2, 0).op(6, 20, 0, 2, 0).op(0, 13, 0, 3, 0)
                .op(2, 20, 0, 2, 0)
                .op(Bench.INDEX, 13, 32, 0, 0).op(Bench.INDEX, 13, -1, 0, 0).count(3, 5);
        });
        Sentence.holds("its value is ACC's lowest 32 bits.", () -> {
            for (long acc : new long[] {0, MIN, MAX, 1L << 31, -(1L << 31) - 1, 1L << 32, (1L << 32) + 9, Long.MIN_VALUE, Long.MAX_VALUE}) {
                Bench bench = new Bench().giveLong(acc);
                for (int sort = 0; sort < 3; sort++) {
                    bench.op(0, 13, sort, sort, 0).op((int) acc, 15, sort, 0, 0);
                }
                bench.op((int) acc, 21, 1, 0, 0).op((int) acc, 21, 2, 0, 0).op(0, 13, 3, 3, 0).op((int) acc, 20, 3, -1, 0).acc(acc);
            }
        });
        Sentence.holds("14 LETTER: PLACE a: a LETTER of sort b % 7 (of b without its sign; of -2^31: 0) is at a.", () -> {
            for (int b : new int[] {0, 1, 6, 7, 8, 13, 14, -1, -6, -7, -8, -13, -14, MAX, -MAX, MIN + 2}) {
                new Bench().op(0, 14, 31, b, 0).op(1, 27, 31, 15, 0).op(Bench.BY_SORT[Math.abs(b) % 7], 26, 31, 0, 0).count(1, 5);
            }
            new Bench().op(0, 14, 31, MIN, 0).op(1, 27, 31, 15, 0).op(Bench.ARITHMETIC, 26, 31, 0, 0);
            new Bench().op(Bench.INDEX, 14, 32, 0, 0).op(Bench.INDEX, 14, -1, 0, 0).count(0, 5);
        });
    }

    private static void values() {
        Sentence.holds("15 VALUE: THING a as a BOX, NEED a: its value.", () -> {
            for (int value : new int[] {0, -1, MIN, MAX}) {
                new Bench().give(value).op(0, 13, 0, 0, 0).op(0, 13, 1, 1, 0).op(0, 13, 2, 2, 0).give(3)
                    .op(value, 15, 0, 0, 0).op(value, 15, 1, 0, 0).op(value, 15, 2, 0, 0);
            }
            Stock.full().op(Bench.CAST, 15, Stock.DRUM, 0, 0).op(Bench.NULL, 15, NONE, 0, 0).op(Bench.INDEX, 15, 32, 0, 0);
        });
        Sentence.holds("16 CHANGE: likewise: its value is ACC's lowest 32 bits; what it had.", () -> {
            for (int k = 0; k < 3; k++) {
                int had = 100 * (k + 1);
                Stock.full().giveLong(Long.MAX_VALUE).op(had, 16, Stock.STONE + k, 0, 0).op(-1, 15, Stock.STONE + k, 0, 0)
                    .acc(Long.MAX_VALUE)
                    .giveLong((1L << 32) + 9).op(-1, 16, Stock.STONE + k, 0, 0).op(9, 16, Stock.STONE + k, 0, 0);
                Stock.full().program(41, MIN, 0, 0, 16, Stock.STONE + k, 0, 0).run(0, 0, 9).acc(had)
                    .op(MIN, 15, Stock.STONE + k, 0, 0);
            }
            Stock.full().op(Bench.CAST, 16, Stock.DRUM, 0, 0).op(Bench.NULL, 16, NONE, 0, 0).op(Bench.INDEX, 16, 32, 0, 0);
        });
        Sentence.holds("21 RIM: THING a as a DISC, NEED a: its rim.", () -> {
            for (int value : new int[] {0, MIN, MAX}) {
                new Bench().give(value).op(0, 13, 0, 1, 0).op(0, 13, 1, 2, 0).give(7).op(value, 16, 0, 0, 0).op(value, 16, 1, 0, 0)
                    .op(value, 21, 0, 0, 0).op(value, 21, 1, 0, 0);
            }
            Stock.full().op(Bench.CAST, 21, Stock.STONE, 0, 0).op(Bench.CAST, 21, Stock.DRUM, 0, 0).op(Bench.NULL, 21, NONE, 0, 0)
                .op(Bench.INDEX, 21, 32, 0, 0);
        });
    }

    private static void links() {
        Sentence.holds("17 LINK: THING a as a BOX, THING b as a BOX, NEED a: its next one is that (or nothing).", () -> {
            Stock.full().op(0, 17, Stock.BALL, Stock.STONE, 0).op(0, 18, Stock.BALL, 25, 0).op(1, 30, 25, Stock.STONE, 0)
                .op(0, 17, Stock.BALL, Stock.BALL, 0).op(0, 18, Stock.BALL, 25, 0).op(1, 30, 25, Stock.BALL, 0)
                .op(0, 17, Stock.BALL, NONE, 0).op(0, 18, Stock.BALL, 25, 0).op(1, 30, 25, NONE, 0)
                .op(Bench.CAST, 17, Stock.DRUM, Stock.STONE, 0).op(Bench.CAST, 17, Stock.STONE, Stock.DRUM, 0)
                .op(Bench.NULL, 17, NONE, Stock.STONE, 0)
                .op(Bench.NULL, 17, NONE, NONE, 0).op(Bench.INDEX, 17, 32, Stock.STONE, 0).op(Bench.INDEX, 17, Stock.STONE, 32, 0);
        });
        Sentence.holds("18 FOLLOW: PLACE b, THING a as a BOX, NEED a: its next one (or nothing) is at b.", () -> {
            Stock.full().op(0, 18, Stock.STONE, 31, 0).op(1, 30, 31, Stock.DISC, 0).op(0, 18, Stock.DISC, 31, 0).op(1, 30, 31, NONE, 0)
                .op(0, 18, Stock.STONE, Stock.STONE, 0).op(1, 30, Stock.STONE, Stock.DISC, 0).op(0, 18, Stock.STONE, Stock.STONE, 0)
                .op(1, 30, Stock.STONE, NONE, 0)
                .op(Bench.CAST, 18, Stock.DRUM, 25, 0).op(Bench.NULL, 18, NONE, 25, 0).op(Bench.INDEX, 18, 32, 25, 0)
                .op(Bench.INDEX, 18, Stock.DISC, 32, 0)
                .op(Bench.INDEX, 18, Stock.DISC, -1, 0);
        });
    }

    private static void weights() {
        Sentence.holds("19 WEIGH: THING a as a BOX, NEED a: of a STONE value * 3 + b, a DISC value * 5 - b, a BALL that and 1 more (ints, what overflows is lost).", () -> {
            int[][] sums = {{0, 0}, {7, 2}, {MAX, 0}, {MIN, 0}, {MAX, MAX}, {MIN, MIN}, {0, MIN}, {-1, MAX}, {1 << 30, MIN}, {858993460, 5}};
            for (int[] s : sums) {
                Bench bench = new Bench().give(s[0]).op(0, 13, 0, 0, 0).op(0, 13, 1, 1, 0).op(0, 13, 2, 2, 0);
                bench.op((int) (3L * s[0] + s[1]), 19, 0, s[1], 0).op((int) (5L * s[0] - s[1]), 19, 1, s[1], 0)
                    .op((int) (5L * s[0] - s[1] + 1), 19, 2, s[1], 0);
            }
            // The value that it has now, not its rim.
            Stock.full().op(200, 16, Stock.DISC, 0, 0).op(24, 19, Stock.DISC, 1, 0).op(300, 16, Stock.BALL, 0, 0)
                .op(25, 19, Stock.BALL, 1, 0)
                .op(Bench.CAST, 19, Stock.DRUM, 0, 0).op(Bench.NULL, 19, NONE, 0, 0).op(Bench.INDEX, 19, 32, 0, 0);
        });
        Sentence.holds("20 ROLL: THING a as what ROLLS, NEED a: of a DISC value ^ b, of a BALL value | b, of a DRUM value & b.", () -> {
            for (int value : new int[] {0, 12, -1, MIN, MAX}) {
                for (int b : new int[] {0, 10, -1, MIN, MAX}) {
                    new Bench().give(value).op(0, 13, 1, 1, 0).op(0, 13, 2, 2, 0).op(0, 13, 3, 3, 0)
                        .op(value ^ b, 20, 1, b, 0).op(value | b, 20, 2, b, 0).op(value & b, 20, 3, b, 0);
                }
            }
            Stock.full().op(200, 16, Stock.DISC, 0, 0).op(Stock.ACC ^ 3, 20, Stock.DISC, 3, 0).op(300, 16, Stock.BALL, 0, 0)
                .op(Stock.ACC | 3, 20, Stock.BALL, 3, 0)
                .op(Bench.CAST, 20, Stock.STONE, 0, 0).op(Bench.CAST, 20, Stock.RACK, 0, 0).op(Bench.NULL, 20, NONE, 0, 0)
                .op(Bench.INDEX, 20, 32, 0, 0);
        });
    }
}
