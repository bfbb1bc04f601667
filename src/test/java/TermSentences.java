/** What section "Terms" says before its operations. */
final class TermSentences {
    private static final int MIN = Integer.MIN_VALUE;
    private static final int MAX = Integer.MAX_VALUE;
    private static final long LEAST = Long.MIN_VALUE;
    private static final long MOST = Long.MAX_VALUE;

    private TermSentences() {
    }

    static void all() {
        things();
        letters();
        cellsFromLongs();
        cellsAsLongs();
        placesAndAcc();
        words();
        sizes();
        order();
        refusals();
        limit();
    }

    private static void things() {
        Sentence.holds("THINGS. ROWS, of KIND 0 ints, 1 longs, 2 shorts, 3 bytes, 4 chars, 5 booleans, 6 floats, 7 doubles.", () -> {
            long[][] ends = {{MIN, MAX}, {LEAST, MOST}, {-32768, 32767}, {-128, 127}, {0, 65535}, {0, 1}, {LEAST, 1L << 62}, {LEAST, 1L << 62}};
            for (int kind = 0; kind < 8; kind++) {
                Bench bench = new Bench().op(1, 0, 0, kind, 1);
                for (long end : ends[kind]) {
                    bench.giveLong(end).op(end, 2, 0, kind, 0).op(end, 1, 0, kind, 0);
                }
            }
        });
        Sentence.holds("SHEETS: rows of ROWS of ints (or of nothing).", () -> {
            for (int place = 0; place <= Stock.SHEET_ROW; place++) {
                Stock.full().op(Stock.is(place, 0) ? "0" : Bench.CAST, 8, Stock.SHEET, 0, place);
            }
            Stock.full().op(0, 8, Stock.SHEET, 0, Stock.NOTHING).op(Bench.NULL, 5, Stock.SHEET, 0, 0);
        });
        Sentence.holds("CASES: rows of BOXES (or of nothing), or of DISCS alone;", () -> {
            for (int place = 0; place <= Stock.SHEET_ROW; place++) {
                String boxes = Stock.is(place, 12) ? "0" : Bench.CAST;
                String discs = Stock.is(place, 13) ? "0" : Stock.is(place, 12) ? Bench.STORE : Bench.CAST;
                Stock.full().op(boxes, 10, Stock.CASE, 0, place).op(discs, 10, Stock.DISC_CASE, 0, place);
            }
            Bench bench = Stock.full().op(0, 10, Stock.CASE, 0, Stock.NOTHING).op(0, 10, Stock.DISC_CASE, 0, Stock.NOTHING);
            Stock.cellsAre(bench, Stock.CASE, Stock.NOTHING, Stock.DISC, Stock.NOTHING);
            Stock.cellsAre(bench, Stock.DISC_CASE, Stock.NOTHING, Stock.NOTHING, Stock.NOTHING);
        });
        Sentence.holds("RACKS: rows of what ROLLS (or of nothing; they are no CASES).", () -> {
            for (int place = 0; place <= Stock.SHEET_ROW; place++) {
                Stock.full().op(Stock.is(place, 14) ? "0" : Bench.CAST, 11, Stock.RACK, 0, place);
            }
            Stock.full().op(0, 11, Stock.RACK, 1, Stock.NOTHING).op(0, 31, Stock.RACK, Stock.CASE, 1 << 16 | 1)
                .op(0, 12, Stock.CASE, 0, 25).op(1, 30, 25, Stock.NOTHING, 0);
            Stock.full().op(0, 27, Stock.RACK, 9, 0).op(0, 27, Stock.RACK, 10, 0).op(0, 27, Stock.CASE, 11, 0)
                .op(0, 27, Stock.DISC_CASE, 11, 0)
                .op(Bench.CAST, 10, Stock.RACK, 0, Stock.DISC).op(Bench.CAST, 12, Stock.RACK, 0, 25)
                .op(Bench.CAST, 11, Stock.CASE, 0, Stock.DISC).op(Bench.CAST, 11, Stock.DISC_CASE, 0, Stock.DISC);
        });
        Sentence.holds("BOXES: STONES, DISCS and BALLS (which are DISCS, too), each with a value (an int) and a next BOX or nothing;", () -> {
            for (int place = Stock.STONE; place <= Stock.BALL; place++) {
                Bench bench = Stock.full().op(1, 27, place, 12, 0).op(place == Stock.STONE ? 0 : 1, 27, place, 13, 0);
                bench.give(MIN).op(100 * (place - 11), 16, place, 0, 0).op(MIN, 15, place, 0, 0).give(MAX).op(MIN, 16, place, 0, 0)
                    .op(MAX, 15, place, 0, 0);
                for (int next = Stock.STONE; next <= Stock.BALL; next++) {
                    bench.op(0, 17, place, next, 0).op(0, 18, place, 25, 0).op(1, 30, 25, next, 0);
                }
                bench.op(0, 17, place, Stock.NOTHING, 0).op(0, 18, place, 25, 0).op(1, 30, 25, Stock.NOTHING, 0);
            }
        });
        Sentence.holds("DISCS ROLL and have a rim, their value when they were made.", () -> {
            for (int place = Stock.DISC; place <= Stock.BALL; place++) {
                int made = 100 * (place - 11);
                Stock.full().op(1, 27, place, 14, 0).op(made, 21, place, 0, 0).give(MIN).op(made, 16, place, 0, 0)
                    .op(made, 21, place, 0, 0);
            }
        });
        Sentence.holds("DRUMS ROLL, have a value, and are no BOXES.", () -> {
            Bench bench = Stock.full().op(1, 27, Stock.DRUM, 14, 0).op(400, 20, Stock.DRUM, -1, 0).op(0, 27, Stock.DRUM, 12, 0)
                .op(0, 27, Stock.DRUM, 13, 0);
            for (int what = 15; what <= 19; what++) {
                bench.op(Bench.CAST, what, Stock.DRUM, Stock.STONE, 0);
            }
            bench.op(Bench.CAST, 21, Stock.DRUM, 0, 0).op(Bench.CAST, 17, Stock.STONE, Stock.DRUM, 0);
        });
    }

    private static void letters() {
        Sentence.holds("LETTERS: exceptions of sort 0 ArithmeticException, 1 NullPointerException, 2 ArrayIndexOutOfBoundsException, "
            + "3 ClassCastException, 4 NegativeArraySizeException, 5 ArrayStoreException, 6 IllegalStateException.", () -> {
                for (int sort = 0; sort < 7; sort++) {
                    new Bench().op(0, 14, 0, sort, 0).op(Bench.BY_SORT[sort], 26, 0, 0, 0);
                }
            });
        Sentence.holds("Each operation is done as it is; what can't be done is told by one of the machine's own exceptions; "
            + "programs of operations catch these by their kinds, or let them out.", () -> {
                int[][] faults = {{22, 0, 0, 0}, {3, Stock.NOTHING, 0, 0}, {3, 32, 0, 0}, {3, Stock.STONE, 0, 0}, {0, 0, 0, -1},
                    {10, Stock.DISC_CASE, 0, Stock.STONE}, {26, Stock.LETTER, 0, 0}};
                for (int sort = 0; sort < 7; sort++) {
                    int[] w = faults[sort];
                    Stock.full().op(Bench.BY_SORT[sort], w).program(45, 1, 4, 0, w[0], w[1], w[2], w[3]).run(0, 0, 9).acc(-1 - sort)
                        .program(45, 1, 5, 0, w[0], w[1], w[2], w[3]).run(Bench.BY_SORT[sort], 0, 9);
                }
            });
    }

    private static void cell(int kind, long value, long want) {
        new Bench().op(1, 0, 0, kind, 1).giveLong(value).op(value, 2, 0, kind, 0).op(want, 1, 0, kind, 0);
    }

    private static void cellsFromLongs() {
        Sentence.holds("A cell's value from a long: ints, shorts, bytes, chars its lowest bits;", () -> {
            int[] bits = {32, 0, 16, 8};
            for (int kind : new int[] {0, 2, 3}) {
                long half = 1L << bits[kind] - 1;
                cell(kind, half - 1, half - 1);
                cell(kind, half, -half);
                cell(kind, -half, -half);
                cell(kind, -half - 1, half - 1);
                cell(kind, 2 * half, 0);
                cell(kind, 2 * half - 1, -1);
                cell(kind, LEAST, 0);
                cell(kind, MOST, -1);
            }
            cell(4, 65535, 65535);
            cell(4, 65536, 0);
            cell(4, 65537, 1);
            cell(4, -1, 65535);
            cell(4, -65536, 0);
            cell(4, LEAST, 0);
            cell(4, MOST, 65535);
        });
        Sentence.holds("booleans whether it is not 0;", () -> {
            cell(5, 0, 0);
            for (long value : new long[] {1, -1, 2, 256, 65536, 1L << 32, LEAST, MOST}) {
                cell(5, value, 1);
            }
        });
        Sentence.holds("floats, doubles the nearest (of two the even one).", () -> {
            int[] bits = {24, 53};
            for (int kind = 6; kind <= 7; kind++) {
                long exact = 1L << bits[kind - 6];
                for (int sign = -1; sign <= 1; sign += 2) {
                    cell(kind, sign * (exact - 1), sign * (exact - 1));
                    cell(kind, sign * exact, sign * exact);
                    cell(kind, sign * (exact + 1), sign * exact);
                    cell(kind, sign * (exact + 2), sign * (exact + 2));
                    cell(kind, sign * (exact + 3), sign * (exact + 4));
                    cell(kind, sign * (4 * exact + 3), sign * 4 * exact);
                    cell(kind, sign * (4 * exact + 4), sign * 4 * exact);
                    cell(kind, sign * (4 * exact + 5), sign * (4 * exact + 8));
                }
            }
        });
    }

    private static void cellsAsLongs() {
        Sentence.holds("As a long: booleans 0 or 1;", () -> {
            Bench bench = new Bench().op(2, 0, 0, 5, 2).give(-7).op(-7, 2, 0, 5, 1).op(0, 1, 0, 5, 0).op(1, 1, 0, 5, 1);
            bench.program(1, 0, 5, 1).run(0, 0, 9).acc(1).program(1, 0, 5, 0).run(0, 0, 9).acc(0);
        });
        Sentence.holds("floats and doubles towards 0 (beyond the longs the nearest one).", () -> {
            for (int kind = 6; kind <= 7; kind++) {
                cell(kind, MOST, MOST);
                cell(kind, MOST - 1, MOST);
                cell(kind, LEAST, LEAST);
                cell(kind, LEAST + 1, LEAST);
                cell(kind, -1, -1);
                cell(kind, 0, 0);
            }
        });
    }

    private static void placesAndAcc() {
        Sentence.holds("PLACES 0 to 31 hold a THING or nothing; at first nothing.", () -> {
            Bench bench = new Bench();
            for (int place = 0; place < 32; place++) {
                bench.op(Bench.NULL, 15, place, 0, 0).op(0, 13, place, 0, 0).op(1, 27, place, 12, 0);
            }
            for (int place = 0; place < 32; place++) {
                bench.op(1, 30, place, place, 0).op(0, 30, place, (place + 1) % 32, 0).op(0, 28, place, 0, 0).op(0, 27, place, 12, 0);
            }
        });
        Sentence.holds("ACC is a long, 0 at first.", () -> new Bench().acc(0)
            .program(42, MAX, 0, 0, 42, MAX, 0, 0, 42, MAX, 0, 0).run(0, 0, 9).acc(3L * MAX));
        Sentence.holds("Another number for a PLACE: ArrayIndexOutOfBoundsException.", () -> {
            for (int what = 0; what < 32; what++) {
                for (int argument : Stock.PLACES[what]) {
                    for (int x : new int[] {-1, 32, 33, 256, MIN, MAX}) {
                        Stock.full().op(Bench.INDEX, Stock.changed(what, argument, x));
                    }
                    for (int x : new int[] {0, 31}) {
                        Bench bench = Stock.full().op(0, 29, Stock.GOOD[what][argument], x, 0);
                        bench.op(Stock.ANSWERS[what], Stock.changed(what, argument, x));
                    }
                }
            }
        });
    }

    private static void words() {
        Sentence.holds("OPERATIONS have a number and three ints a, b, c; their answer is a long.", () -> {
            for (int what = 0; what < 32; what++) {
                Stock.full().op(Stock.ANSWERS[what], Stock.GOOD[what]);
            }
            new Bench().giveLong(MOST).op(1, 0, 0, 1, 1).op(MOST, 2, 0, 1, 0).op(MOST, 1, 0, 1, 0);
        });
        Sentence.holds("Here PLACE x means: x is looked at as such; THING x as SORT: PLACE x, then ClassCastException if what is there is no SORT "
            + "(nothing is any);", () -> {
                for (int[] use : Stock.SORTS) {
                    for (int place = 0; place <= Stock.SHEET_ROW; place++) {
                        if (!Stock.is(place, use[2])) {
                            Stock.full().op(Bench.CAST, Stock.changed(use[0], use[1], place));
                        }
                    }
                    String ofNothing = use[1] == 1 ? Bench.NULL : "0";
                    Stock.full().op(ofNothing, Stock.changed(use[0], use[1], Stock.NOTHING));
                }
                everyKind();
            });
        Sentence.holds("NEED x: NullPointerException if nothing is there;", () -> {
            for (int[] use : Stock.SORTS) {
                if (use[1] == 1) {
                    Stock.full().op(Bench.NULL, Stock.changed(use[0], 1, Stock.NOTHING));
                }
            }
            Stock.full().op(Bench.NULL, Stock.changed(31, 1, Stock.NOTHING)).op(Bench.NULL, Stock.changed(31, 2, Stock.NOTHING));
        });
        Sentence.holds("INDEX i: ArrayIndexOutOfBoundsException if it is no cell of that row;", () -> {
            for (int[] use : Stock.CELLS) {
                for (int i : new int[] {-1, use[2], use[2] + 1, MIN, MAX}) {
                    Stock.full().op(Bench.INDEX, Stock.changed(use[0], use[1], i));
                }
                Stock.full().op(use[0] == 1 || use[0] == 5 ? "0" : Stock.ANSWERS[use[0]], Stock.changed(use[0], use[1], 0));
                Stock.full().op(Stock.ANSWERS[use[0]], Stock.changed(use[0], use[1], use[2] - 1));
                ofNoCells(use[0], use[1]);
            }
        });
    }

    /** Each row as one of each other kind. */
    private static void everyKind() {
        for (int kind = 0; kind < 8; kind++) {
            for (int asked = 0; asked < 8; asked++) {
                for (int what = 1; what <= 3; what++) {
                    String answer = what == 3 ? "3" : what == 2 ? "5" : "1";
                    Stock.full().op(asked == kind ? answer : Bench.CAST, what, kind, asked, 1);
                }
            }
        }
    }

    /** An empty row, sheet, case or rack has no cell 0. */
    private static void ofNoCells(int what, int argument) {
        Bench bench = Stock.full().op(0, 0, 25, 0, 0).op(0, 4, 26, argument == 3 ? 1 : 0, 0).op(0, 9, 27, 0, 0).op(0, 9, 28, 2, 0);
        int[] call = Stock.changed(what, argument, 0);
        call[1] = what <= 2 ? 25 : what <= 8 ? 26 : what == 11 ? 28 : 27;
        call[2] = argument == 3 ? 0 : call[2];
        bench.op(Bench.INDEX, call);
    }

    private static void sizes() {
        Sentence.holds("SIZE n: NegativeArraySizeException if it is below 0;", () -> {
            for (int n : new int[] {-1, -8, MIN}) {
                Stock.full().op(Bench.SIZE, 0, 0, 0, n).op(Bench.SIZE, 4, 0, n, 1).op(Bench.SIZE, 4, 0, 1, n)
                    .op(Bench.SIZE, 4, 0, 0, n).op(Bench.SIZE, 9, 0, 0, n);
            }
            Stock.full().op(0, 0, 0, 0, 0).op(0, 4, 0, 0, 0).op(0, 9, 0, 0, 0);
        });
        Sentence.holds("%: what is left of a division, with the sign of the left side.", () -> {
            sizesOf(100, 0);
            sizesOf(40, 9);
            for (int n : new int[] {0, 9, -9, 18, -18}) {
                new Bench().op(0, 4, 0, n, 1).op(Bench.INDEX, 7, 0, 0, 1).op(0, 4, 0, 1, n).op(Bench.INDEX, 5, 0, 0, 0);
            }
            new Bench().op(0, 4, 0, 17, 10).op(0, 5, 0, 7, 0).op(Bench.INDEX, 5, 0, 8, 0).op(Bench.INDEX, 5, 0, 0, 1)
                .op(0, 4, 0, MAX, 26).op(0, 5, 0, 0, 7).op(Bench.INDEX, 5, 0, 1, 0).op(Bench.INDEX, 5, 0, 0, 8);
            for (int n : new int[] {-1, -8, -10, -17, MIN}) {
                new Bench().op(Bench.SIZE, 4, 0, n, 1).op(Bench.SIZE, 4, 0, 1, n);
            }
        });
        Sentence.holds("KINDS k are taken by their lowest three bits.", () -> {
            for (int kind = 0; kind < 8; kind++) {
                for (int b : new int[] {kind, kind + 8, kind - 8, kind | MIN, kind | MAX - 7, kind + 256}) {
                    new Bench().give(1).op(4, 0, 9, b, 4).op(1, 27, 9, kind, 0).op(4, 3, 9, kind, 0).op(1, 2, 9, b, 3)
                        .op(1, 1, 9, b, 3).op(4, 3, 9, b, 0)
                        .op(Bench.CAST, 3, 9, b + 1, 0).op(Bench.CAST, 1, 9, b ^ 4, 0).op(Bench.CAST, 2, 9, b ^ 2, 0);
                }
            }
        });
    }

    private static void sizesOf(int modulus, int what) {
        for (int n : new int[] {0, 1, modulus - 1, modulus, modulus + 1, 2 * modulus - 1, -modulus, -2 * modulus, MAX}) {
            new Bench().op(n % modulus, what, 0, 0, n);
        }
        for (int n : new int[] {-1, 1 - modulus, -modulus - 1, MIN}) {
            new Bench().op(Bench.SIZE, what, 0, 0, n);
        }
    }

    private static void order() {
        Sentence.holds("What is told first is looked at first;", () -> {
            int none = Stock.NOTHING;
            Bench bench = Stock.full().op(0, 8, Stock.SHEET, 0, none);
            bench.op(Bench.INDEX, 0, 32, 0, -1).op(Bench.INDEX, 4, 32, -1, -1).op(Bench.INDEX, 9, 32, 0, -1);
            for (int what = 1; what <= 2; what++) {
                bench.op(Bench.CAST, what, 1, 0, 3).op(Bench.NULL, what, none, 0, -1);
            }
            for (int what = 5; what <= 6; what++) {
                bench.op(Bench.CAST, what, 0, 9, 9).op(Bench.NULL, what, none, 9, 9).op(Bench.NULL, what, Stock.SHEET, 0, 9)
                    .op(Bench.INDEX, what, Stock.SHEET, 2, 9);
            }
            bench.op(Bench.INDEX, 7, 0, 9, 32).op(Bench.INDEX, 7, none, 9, 32).op(Bench.CAST, 7, 0, 9, 25)
                .op(Bench.NULL, 7, none, 9, 25);
            bench.op(Bench.INDEX, 12, 0, 9, 32).op(Bench.INDEX, 12, none, 9, 32).op(Bench.CAST, 12, 0, 9, 25)
                .op(Bench.NULL, 12, none, 9, 25);
            putOrder(bench, 8, Stock.SHEET, Stock.SHEET_ROW, Stock.STONE);
            putOrder(bench, 10, Stock.DISC_CASE, Stock.STONE, Stock.DRUM);
            putOrder(bench, 11, Stock.RACK, Stock.DRUM, Stock.STONE);
            bench.op(Bench.INDEX, 17, 32, 0, 0).op(Bench.CAST, 17, 0, 32, 0).op(Bench.INDEX, 17, none, 32, 0)
                .op(Bench.CAST, 17, none, 0, 0);
            bench.op(Bench.INDEX, 18, 0, 32, 0).op(Bench.INDEX, 18, none, 32, 0);
            int beyond = 127;
            bench.op(Bench.INDEX, 31, none, 32, 0).op(Bench.INDEX, 31, 32, none, 0).op(Bench.NULL, 31, none, Stock.STONE, 0)
                .op(Bench.NULL, 31, Stock.STONE, none, 0).op(Bench.STORE, 31, Stock.STONE, 0, beyond).op(Bench.STORE, 31, 0, 1, beyond)
                .op(Bench.INDEX, 31, Stock.CASE, Stock.DISC_CASE, beyond);
        });
    }

    /** Of an operation that puts a thing (as c) in a cell (b) of a: c is looked at before it is needed that a is there. */
    private static void putOrder(Bench bench, int what, int shelf, int thing, int wrong) {
        int none = Stock.NOTHING;
        bench.op(Bench.INDEX, what, 32, 9, wrong).op(Bench.CAST, what, 1, 9, 32).op(Bench.INDEX, what, none, 9, 32);
        bench.op(Bench.CAST, what, none, 9, wrong).op(Bench.NULL, what, none, 9, thing).op(Bench.CAST, what, shelf, 9, wrong)
            .op(Bench.INDEX, what, shelf, 9, thing);
    }

    private static void refusals() {
        Sentence.holds("an operation that throws does nothing (but COPY).", () -> {
            for (int what = 0; what < 32; what++) {
                for (int argument : Stock.PLACES[what]) {
                    doesNothing(Bench.INDEX, Stock.changed(what, argument, 32));
                }
            }
            for (int[] use : Stock.SORTS) {
                doesNothing(Bench.CAST, Stock.changed(use[0], use[1], use[2] == 15 ? 0 : Stock.LETTER));
                if (use[1] == 1) {
                    doesNothing(Bench.NULL, Stock.changed(use[0], 1, Stock.NOTHING));
                }
            }
            for (int[] use : Stock.CELLS) {
                doesNothing(Bench.INDEX, Stock.changed(use[0], use[1], use[2]));
            }
            int[][] sizes = {{0, 0, 0, -1}, {4, 0, -1, 2}, {4, 0, 2, -1}, {9, 0, 0, -1}};
            for (int[] call : sizes) {
                doesNothing(Bench.SIZE, call);
            }
            for (int what = 22; what <= 25; what++) {
                doesNothing(Bench.ARITHMETIC, new int[] {what, 0, 0, 0});
            }
            doesNothing(Bench.STORE, new int[] {10, Stock.DISC_CASE, 0, Stock.STONE});
            doesNothing(Bench.STATE, new int[] {26, Stock.LETTER, 0, 0});
        });
        Sentence.holds("Where no answer is told it is 0.", () -> {
            for (int what : new int[] {4, 6, 7, 8, 10, 11, 12, 13, 14, 17, 18, 28, 29, 31}) {
                int[] w = Stock.GOOD[what];
                Stock.full().op("0", w).acc(Stock.ACC);
                Stock.full().program(w).run(0, 0, 9).acc(0);
            }
        });
    }

    private static void doesNothing(String fault, int[] call) {
        Bench bench = Stock.full().op(fault, call);
        Stock.isWhole(bench);
        // In a program neither; it keeps ACC, too.
        bench = Stock.full().program(call).run(fault, 0, 9);
        Stock.isWhole(bench);
    }

    /** A mill that has made so many things (by operation 13, at place 0). */
    static Bench afterMaking(int things) {
        Bench bench = new Bench();
        int made = 0;
        for (; things - made >= 199; made += 199) {
            bench.program(44, 1, 199, 0, 13, 0, 0, 0).run(1, 0, 200);
        }
        for (; made < things; made++) {
            bench.op(0, 13, 0, 0, 0);
        }
        return bench.count(things, 5);
    }

    private static void limit() {
        Sentence.holds("0, 4, 9, 13 and 14 before all else: IllegalStateException if 6,000 THINGS were made already.", () -> {
            for (int what : new int[] {0, 4, 9, 13, 14}) {
                Bench bench = afterMaking(5999);
                // One that throws makes none, so there is room for one more.
                bench.op(Bench.INDEX, what, 32, 0, 0).count(5999, 5).op(0, what, 1, 0, 0).count(6000, 5);
                bench.op(Bench.STATE, what, 2, 0, 0).op(Bench.STATE, what, 32, -1, -1).op(Bench.STATE, what, -1, 0, 0)
                    .op(1, 30, 2, 3, 0).count(6000, 5);
                bench.program(45, 1, 7, 0, what, 32, -1, -1).run(0, 0, 9).acc(-7).program(what, 2, 0, 0).run(Bench.STATE, 0, 9)
                    .count(6000, 5);
                // To clear a place gives none back.
                bench.op(0, 28, 0, 0, 0).op(0, 28, 1, 0, 0).op(Bench.STATE, what, 2, 0, 0);
            }
            // All else goes on.
            afterMaking(6000).op(0, 29, 0, 1, 0).op(1, 30, 0, 1, 0).op(0, 15, 0, 0, 0).op(Bench.NULL, 31, 0, 2, 0);
        });
    }
}
