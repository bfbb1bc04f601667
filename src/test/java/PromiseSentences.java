/** Promises 1 to 6. */
final class PromiseSentences {
    private static final int MIN = Integer.MIN_VALUE;
    private static final int MAX = Integer.MAX_VALUE;

    private PromiseSentences() {
    }

    static void all() {
        newObject();
        op();
        load();
        run();
        fuel();
        Sentence.holds("ACC.", () -> {
            new Bench().acc(0).acc(0).give(MIN).acc(MIN).acc(MIN).giveLong(Long.MAX_VALUE).acc(Long.MAX_VALUE)
                .giveLong(Long.MIN_VALUE).acc(Long.MIN_VALUE);
            // Not an operation: nothing is counted for it.
            new Bench().acc(0).counts(0, 0, 0, 0, 0, 0);
        });
        done();
        counts();
    }

    private static void newObject() {
        Sentence.holds("Nothing in the PLACES; ACC 0; a PROGRAM of 256 operations 40.", () -> {
            for (int place = 0; place < 32; place++) {
                Bench bench = new Bench().op(Bench.NULL, 3, place, 0, 0).op(1, 30, place, 31 - place, 0);
                for (int sort = 0; sort < 16; sort++) {
                    bench.op(0, 27, place, sort, 0);
                }
            }
            new Bench().acc(0);
            for (int from = 0; from < 256; from++) {
                // A STOP takes one FUEL, the end behind 255 none.
                new Bench().giveLong(7).run(0, from, 5).acc(7).counts(1, 0, 0, 0, 4, 0).run(1, from, 0).acc(7);
            }
        });
    }

    private static void op() {
        Sentence.holds("The operation is done (of 40 to 45 nothing: -1): its answer; ACC stays.", () -> {
            for (int what = 0; what < 32; what++) {
                Stock.full().op(Stock.ANSWERS[what], Stock.GOOD[what]).acc(Stock.ACC);
            }
            for (int what = 40; what <= 45; what++) {
                for (int a : new int[] {0, 7, -1, MIN, MAX}) {
                    Bench bench = Stock.full().op(-1, what, a, 6, 1).count(0, 2).count(0, 3);
                    Stock.isWhole(bench);
                }
            }
            // The program has no part in it.
            new Bench().load("0", 0, 42, 1, 0, 0).op(-1, 44, 1, 5, 0).op(-1, 45, 1, 4, 0).acc(0).run(1, 0, 1).acc(1);
        });
        Sentence.holds("Its exception is let out.", () -> {
            for (int sort = 0; sort < 7; sort++) {
                // A call of 45 before it catches none.
                new Bench().op(0, 14, 0, sort, 0).op(-1, 45, 9, 4, 0).op(Bench.BY_SORT[sort], 26, 0, 0, 0).acc(0)
                    .counts(2, 0, 0, 1, 0, 1)
                    .op(-1, 99, 0, 0, 0).op(Bench.BY_SORT[sort], 26, 0, 0, 0).counts(3, 0, 0, 2, 0, 1);
            }
        });
    }

    private static void load() {
        Sentence.holds("Operation k of the PROGRAM is this one: its number.", () -> {
            Bench bench = new Bench();
            for (int k = 0; k < 256; k++) {
                bench.load(Integer.toString(k), k, 41, k - 128, 0, 0);
            }
            for (int k = 0; k < 256; k++) {
                bench.run(k == 255 ? 0 : 1, k, 1).acc(k - 128);
            }
            for (int k : new int[] {0, 255}) {
                new Bench().load(Integer.toString(k), k, 0, 31, 3, 17).run(k == 255 ? 0 : 1, k, 1).acc(17).op(17, 3, 31, 3, 0)
                    .load(Integer.toString(k), k, MIN, MIN, MAX, MIN).run(k == 255 ? 0 : 1, k, 1).acc(-1);
            }
        });
        Sentence.holds("ArrayIndexOutOfBoundsException: k is not 0 to 255.", () -> {
            for (int k : new int[] {-1, 256, 257, 1 << 30, MIN, MAX}) {
                // The program stays, and nothing is counted.
                Bench bench = new Bench().load(Bench.INDEX, k, 41, 5, 0, 0).counts(0, 0, 0, 0, 0, 0);
                for (int from = 0; from < 256; from++) {
                    bench.run(0, from, 1).acc(0);
                }
                bench.run(0, k, 1).acc(0);
            }
        });
    }

    private static void run() {
        Sentence.holds("The PROGRAM from an operation on;", () -> {
            for (int from = 0; from < 4; from++) {
                int[] sums = {111, 110, 100, 0};
                new Bench().program(42, 1, 0, 0, 42, 10, 0, 0, 42, 100, 0, 0).run(0, from, 9).acc(sums[from])
                    .counts(4 - from, 0, 0, 0, 5 + from, 0);
            }
            // From amidst what a TRY or a REPEAT stands before: neither is begun.
            new Bench().program(45, 1, 4, 0, 22, 0, 0, 0).run(Bench.ARITHMETIC, 1, 9);
            new Bench().program(44, 1, 5, 0, 42, 1, 0, 0).run(0, 1, 9).acc(1);
            // Nor does one that an earlier run was amidst go on.
            new Bench().program(44, 1, 5, 0, 42, 1, 0, 0).run(1, 0, 3).acc(2).run(0, 1, 9).acc(3).counts(3 + 2, 0, 0, 0, 7, 0);
        });
        Sentence.holds("each of 0 to 31 (or of a number that is none) gives ACC its answer.", () -> {
            for (int what = 0; what < 32; what++) {
                Bench bench = Stock.full().program(Stock.GOOD[what]);
                if (what == 26) {
                    bench.run(Bench.STATE, 0, 9).acc(Stock.ACC);
                } else {
                    bench.run(0, 0, 9).acc(Long.parseLong(Stock.ANSWERS[what]));
                }
            }
            for (int what : new int[] {-1, 32, 39, 46, MIN, MAX}) {
                Stock.full().program(what, 0, 0, 0).run(0, 0, 9).acc(-1);
            }
            // 40 and 43 to 45 leave it alone.
            for (int what : new int[] {40, 43, 44, 45}) {
                Stock.full().program(what, 0, 1, 0).run(0, 0, 9).acc(Stock.ACC);
            }
        });
        Sentence.holds("0: STOP or its end (behind 255, or from is not 0 to 255);", () -> {
            new Bench().run(0, 0, 1).run(0, 255, 1);
            new Bench().load("255", 255, 42, 1, 0, 0).run(0, 255, 1).acc(1).count(0, 4).run(0, 255, 2).acc(2).count(1, 4);
            new Bench().load("254", 254, 44, 1, 2, 0).load("255", 255, 42, 1, 0, 0).run(0, 254, 3).acc(2).count(0, 4);
            for (int from : new int[] {-1, 256, MIN, MAX}) {
                new Bench().load("0", 0, 42, 1, 0, 0).load("255", 255, 42, 1, 0, 0).run(0, from, 9).acc(0).count(0, 0)
                    .run(0, from, 0).run(0, from, -1).run(0, from, 1);
            }
        });
        Sentence.holds("An exception that is not caught is let out.", () -> {
            for (int sort = 0; sort < 7; sort++) {
                new Bench().op(0, 14, 0, sort, 0).program(42, 1, 0, 0, 26, 0, 0, 0, 42, 10, 0, 0).run(Bench.BY_SORT[sort], 0, 9)
                    .acc(1).counts(2, 0, 0, 1, 7, 1)
                    .run(Bench.BY_SORT[sort], 0, 2).acc(2).counts(3, 0, 0, 2, 0, 1).run(1, 0, 1).acc(3).run(0, 2, 9).acc(13);
                // The last operation of all, with the last FUEL.
                new Bench().op(0, 14, 0, sort, 0).load("255", 255, 26, 0, 0, 0).run(Bench.BY_SORT[sort], 255, 1)
                    .counts(1, 0, 0, 1, 0, 1);
            }
        });
    }

    private static void fuel() {
        Sentence.holds("Each operation that is begun takes one FUEL, before anything else.", () -> {
            // One that throws, one that is none, and one that goes elsewhere takes its own as well.
            for (int what = 0; what < 47; what++) {
                boolean looksAtPlaces = what < 32 && Stock.PLACES[what].length > 0;
                String end = looksAtPlaces ? Bench.INDEX : what < 32 ? Bench.ARITHMETIC : what == 40 ? "0" : "1";
                Stock.full().program(what, 32, 0, -1).run(end, 0, 1).count(0, 4).run(1, 0, 0).count(0, 4);
            }
            new Bench().program(44, 1, 3, 0, 42, 1, 0, 0).run(0, 0, 50).count(50 - 1 - 3 - 1, 4);
            new Bench().program(45, 1, 4, 0, 22, 0, 0, 0).run(0, 0, 50).count(50 - 2 - 1, 4);
            new Bench().program(41, -1, 0, 0, 43, 1, 0, 0, 42, 1, 0, 0).run(0, 0, 50).count(50 - 2 - 1, 4);
            // Without FUEL no operation is begun, so none throws.
            new Bench().program(42, 1, 0, 0, 22, 0, 0, 0).run(1, 0, 1).acc(1).counts(1, 0, 0, 0, 0, 0).run(Bench.ARITHMETIC, 0, 2)
                .acc(2).counts(2, 0, 0, 1, 0, 0);
        });
        Sentence.holds("1: there was no FUEL for the next one.", () -> {
            new Bench().run(1, 0, 0).count(0, 0);
            new Bench().program(42, 1, 0, 0, 42, 10, 0, 0).run(1, 0, 1).acc(1).run(1, 0, 2).acc(12).run(0, 0, 3).acc(23);
            new Bench().program(44, 1, 2, 0, 42, 1, 0, 0).run(1, 0, 1).acc(0).run(1, 0, 2).acc(1).run(1, 0, 3).acc(3).run(0, 0, 4)
                .acc(5);
            // What is caught takes none, but the next one does.
            new Bench().program(45, 1, 4, 0, 22, 0, 0, 0).run(1, 0, 2).acc(-1).run(0, 0, 3);
        });
        Sentence.holds("FUEL is at first fuel, 200 if it is above, none if below 0.", () -> {
            int[][] rows = {{0, 0}, {1, 1}, {199, 199}, {200, 200}, {201, 200}, {1000, 200}, {MAX, 200}, {-1, 0}, {-200, 0}, {MIN, 0}};
            for (int[] r : rows) {
                Bench bench = new Bench();
                for (int k = 0; k < 256; k++) {
                    bench.load(Integer.toString(k), k, 42, 1, 0, 0);
                }
                bench.run(1, 0, r[0]).acc(r[1]).count(0, 4).count(r[1], 0).run(0, 256, r[0]).count(r[1], 4);
            }
        });
    }

    private static void done() {
        Sentence.holds("What 0: operations that were done without an exception (of calls and PROGRAMS, all numbers; "
            + "44 and 45 also when what is in them was stopped or lacked FUEL),", () -> {
                for (int what : new int[] {-1, 27, 32, 40, 41, 42, 43, 44, 45, 46, MIN, MAX}) {
                    new Bench().op(what == 27 ? 0 : -1, what, 0, 0, 0).count(1, 0);
                    new Bench().load("255", 255, what, 0, 0, 0).run(0, 255, 1).count(1, 0);
                }
                new Bench().op(Bench.ARITHMETIC, 22, 0, 0, 0).count(0, 0).program(42, 1, 0, 0, 22, 0, 0, 0)
                    .run(Bench.ARITHMETIC, 0, 9).count(1, 0);
                for (int what = 44; what <= 45; what++) {
                    // Stopped; lacking FUEL, for the first one in it, for the next one; and with an exception that it lets out.
                    new Bench().program(what, 2, 5, 0, 40, 0, 0, 0).run(0, 0, 9).count(2, 0);
                    new Bench().program(what, 2, 5, 0, 42, 1, 0, 0, 42, 1, 0, 0).run(1, 0, 1).count(1, 0).run(1, 0, 2).count(3, 0)
                        .run(1, 0, 0).count(3, 0);
                    new Bench().program(what, 2, 5, 0, 42, 1, 0, 0, 22, 0, 0, 0).run(Bench.ARITHMETIC, 0, 9).count(1, 0);
                    new Bench().program(what, 2, 5, 0, what, 1, 5, 0, 40, 0, 0, 0).run(0, 0, 9).count(3, 0);
                }
                // A TRY that catches is done; what threw in it, and the REPEAT round that, are not.
                new Bench().program(45, 1, 4, 0, 22, 0, 0, 0).run(0, 0, 9).count(2, 0);
                new Bench().program(45, 2, 4, 0, 44, 1, 5, 0, 22, 0, 0, 0).run(0, 0, 9).count(2, 0);
                // Loads, and looks at ACC and counts, are no operations.
                new Bench().load("0", 0, 42, 1, 0, 0).acc(0).counts(0, 0, 0, 0, 0, 0);
            });
    }

    private static void counts() {
        Sentence.holds("1: exceptions caught,", () -> {
            new Bench().count(0, 1).program(44, 2, 7, 0, 45, 1, 0, 0, 22, 0, 0, 0).run(0, 0, 99).count(7, 1).count(0, 3)
                .run(0, 0, 99).count(14, 1);
            // Once, by the innermost that catches it.
            new Bench().program(45, 3, 4, 0, 45, 2, 4, 0, 45, 1, 1, 0, 22, 0, 0, 0).run(0, 0, 9).count(1, 1);
            new Bench().program(45, 1, 1, 0, 22, 0, 0, 0).run(Bench.ARITHMETIC, 0, 9).count(0, 1).op(Bench.ARITHMETIC, 22, 0, 0, 0)
                .count(0, 1);
        });
        Sentence.holds("2: FINALS,", () -> new Bench().count(0, 2).program(44, 2, 7, 0, 45, 1, 6, 0, 42, 1, 0, 0).run(0, 0, 99).count(7, 2).run(0, 0, 99).count(14, 2)
            .op(-1, 45, 0, 6, 0).count(14, 2));
        Sentence.holds("3: exceptions that calls of op and run let out,", () -> {
            new Bench().count(0, 3).op(Bench.ARITHMETIC, 22, 0, 0, 0).count(1, 3).op(Bench.NULL, 3, 0, 0, 0).count(2, 3)
                .program(22, 0, 0, 0).run(Bench.ARITHMETIC, 0, 9).count(3, 3).program(45, 1, 4, 0, 22, 0, 0, 0).run(0, 0, 9)
                .count(3, 3);
            // Not those of load.
            new Bench().load(Bench.INDEX, 256, 0, 0, 0, 0).load(Bench.INDEX, -1, 0, 0, 0, 0).count(0, 3);
        });
        Sentence.holds("4: FUEL left by the latest run (0 without one),", () -> {
            new Bench().count(0, 4).op(0, 27, 0, 0, 0).count(0, 4).load("9", 9, 41, 0, 0, 0).count(0, 4).run(0, 0, 7).count(6, 4)
                .op(0, 27, 0, 0, 0).count(6, 4)
                .op(Bench.ARITHMETIC, 22, 0, 0, 0).count(6, 4).run(0, 0, 200).count(199, 4).run(1, 0, 0).count(0, 4).run(0, -1, 30)
                .count(30, 4);
            new Bench().program(42, 1, 0, 0, 22, 0, 0, 0).run(Bench.ARITHMETIC, 0, 9).count(7, 4);
        });
        Sentence.holds("5: THINGS made (by 0, 4, 9, 13, 14: a SHEET is one).", () -> {
            for (int what = 0; what < 32; what++) {
                boolean makes = what == 0 || what == 4 || what == 9 || what == 13 || what == 14;
                Stock.full().op(Stock.ANSWERS[what], Stock.GOOD[what]).count(makes ? 18 : 17, 5);
            }
            for (int height : new int[] {0, 1, 8}) {
                new Bench().op(0, 4, 0, height, 8).count(1, 5).program(4, 0, height, 8).run(0, 0, 9).count(2, 5);
            }
            new Bench().op(Bench.SIZE, 0, 0, 0, -1).op(Bench.SIZE, 4, 0, 1, -1).op(Bench.SIZE, 9, 0, 0, -1)
                .op(Bench.INDEX, 13, 32, 0, 0).op(Bench.INDEX, 14, 32, 0, 0).count(0, 5);
            TermSentences.afterMaking(6000).op(Bench.STATE, 13, 0, 0, 0).count(6000, 5);
        });
        Sentence.holds("-1 for others.", () -> {
            for (int what : new int[] {-1, 6, 7, 256, MIN, MAX}) {
                new Bench().count(-1, what);
                Stock.full().count(-1, what);
            }
        });
    }
}
