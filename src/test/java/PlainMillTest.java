import java.util.Random;

/** Promises 1 to 6: long runs of calls, drawn by fixed seeds, held against PlainMill. */
final class PlainMillTest {
    private static final int[] EDGES = {
        0, 1, -1, 2, 7, 8, 9, 31, 32, 33, 39, 40, 99, 100, 127, 255, 256, 65793, 65536, 66048, 131330, 16777217,
        Integer.MAX_VALUE, Integer.MIN_VALUE};

    public static void main(String[] args) {
        for (int seed = 0; seed < 1500; seed++) {
            oneRun(new Random(seed), seed);
        }
        Bench.finish();
    }

    private static void oneRun(Random random, int seed) {
        FaultMill mill = new FaultMill();
        PlainMill plain = new PlainMill();
        int places = 2 + random.nextInt(8);
        if (seed % 50 == 0) {
            fill(mill, plain, seed);
        }
        for (int call = 0; call < 200; call++) {
            oneCall(random, mill, plain, places, "seed " + seed + " call " + call);
        }
        for (int place = 0; place < 32; place++) {
            for (int sort = 0; sort < 16; sort++) {
                bothDo(mill, plain, "seed " + seed + " end", 27, place, sort, 0);
            }
            for (int c = 0; c < 9; c++) {
                for (int kind = 0; kind < 8; kind++) {
                    bothDo(mill, plain, "seed " + seed + " end", 1, place, kind, c);
                }
                bothDo(mill, plain, "seed " + seed + " end", 5, place, c & 3, c);
            }
        }
    }

    /** So many things that the limit comes within the run. */
    private static void fill(FaultMill mill, PlainMill plain, int seed) {
        for (int k = 0; k < 5950; k++) {
            bothDo(mill, plain, "seed " + seed + " fill", 13, k % 32, k, 0);
        }
    }

    private static void oneCall(Random random, FaultMill mill, PlainMill plain, int places, String label) {
        int[] w = operation(random, places);
        switch (random.nextInt(8)) {
            case 0: case 1: case 2: {
                bothDo(mill, plain, label, w[0], w[1], w[2], w[3]);
                break;
            }
            case 3: case 4: case 5: {
                int k = random.nextInt(50) == 0 ? number(random) : random.nextInt(20);
                Bench.due(label + " load", Bench.answerOfLoad(mill, k, w[0], w[1], w[2], w[3]), plainLoad(plain, k, w));
                break;
            }
            default: {
                int from = random.nextInt(30) == 0 ? number(random) : random.nextInt(8);
                int fuel = random.nextInt(6) == 0 ? random.nextInt(8) : random.nextInt(240) - 10;
                Bench.due(label + " run", Bench.answerOfRun(mill, from, fuel), plainRun(plain, from, fuel));
                break;
            }
        }
        Bench.due(label + " acc", Long.toString(mill.acc()), Long.toString(plain.acc()));
        for (int what = -1; what <= 6; what++) {
            Bench.due(label + " count " + what, Integer.toString(mill.count(what)), Integer.toString(plain.count(what)));
        }
    }

    private static void bothDo(FaultMill mill, PlainMill plain, String label, int what, int a, int b, int c) {
        String want;
        try {
            want = Long.toString(plain.op(what, a, b, c));
        } catch (RuntimeException e) {
            want = Bench.thrown(e);
        }
        String call = label + " op(" + what + ", " + a + ", " + b + ", " + c + ")";
        Bench.due(call, Bench.answerOfOp(mill, what, a, b, c), want);
    }

    private static String plainLoad(PlainMill plain, int k, int[] w) {
        try {
            return Integer.toString(plain.load(k, w[0], w[1], w[2], w[3]));
        } catch (RuntimeException e) {
            return Bench.thrown(e);
        }
    }

    private static String plainRun(PlainMill plain, int from, int fuel) {
        try {
            return Integer.toString(plain.run(from, fuel));
        } catch (RuntimeException e) {
            return Bench.thrown(e);
        }
    }

    private static int number(Random random) {
        return random.nextInt(10) == 0 ? random.nextInt() : EDGES[random.nextInt(EDGES.length)];
    }

    private static int place(Random random, int places) {
        return random.nextInt(25) == 0 ? number(random) : random.nextInt(places);
    }

    /** Mostly one that can be done; now and then any numbers at all. */
    private static int[] operation(Random random, int places) {
        int what = random.nextInt(40);
        if (what >= 32) {
            return control(random);
        }
        int[] w = {what, place(random, places), place(random, places), random.nextInt(5)};
        switch (what) {
            case 0: case 1: case 2: case 3: w[2] = random.nextInt(3) == 0 ? random.nextInt(8) : random.nextInt(2) * 6; break;
            case 4: case 5: case 6: w[2] = random.nextInt(4); break;
            case 7: case 8: case 10: case 11: case 12: w[2] = random.nextInt(4); w[3] = place(random, places); break;
            case 9: case 13: w[2] = random.nextInt(4); break;
            case 14: w[2] = random.nextInt(15) - 7; break;
            case 19: case 20: w[2] = number(random); break;
            case 22: case 23: case 24: case 25: w[2] = random.nextInt(5) - 2; break;
            case 27: w[2] = random.nextInt(16); break;
            case 31: w[3] = random.nextInt(3) << 16 | random.nextInt(3) << 8 | random.nextInt(4); break;
            default: break;
        }
        if (random.nextInt(20) == 0) {
            w[1 + random.nextInt(3)] = number(random);
        }
        return w;
    }

    private static int[] control(Random random) {
        int what = 40 + random.nextInt(7);
        if (what == 40 && random.nextInt(3) != 0) {
            what = 45;
        }
        if (what == 46) {
            return new int[] {random.nextInt(3) == 0 ? number(random) : 45, random.nextInt(6), random.nextInt(8), number(random)};
        }
        int a = what < 43 && random.nextInt(3) != 0 || random.nextInt(12) == 0 ? number(random) : random.nextInt(6);
        int b = random.nextInt(12) == 0 ? number(random) : random.nextInt(what == 45 ? 8 : 4);
        return new int[] {what, a, b, 0};
    }
}
