/**
 * The document once more, in another way: real arrays of all kinds, the machine's own exceptions, and
 * blocks that call one another. It is what FaultMill is held against.
 */
final class PlainMill {
    interface Rolls {
        int roll(int b);
    }

    static class Box {
        int value;
        Box next;
    }

    static class Stone extends Box {
    }

    static class Disc extends Box implements Rolls {
        int rim;

        @Override
        public int roll(int b) {
            return value ^ b;
        }
    }

    static class Ball extends Disc {
        @Override
        public int roll(int b) {
            return value | b;
        }
    }

    static class Drum implements Rolls {
        int value;

        @Override
        public int roll(int b) {
            return value & b;
        }
    }

    /** Not one of the mill's exceptions: ends the program. */
    static class Ended extends Error {
        private static final long serialVersionUID = 1;
        final int answer;

        Ended(int answer) {
            super(null, null, false, false);
            this.answer = answer;
        }
    }

    private static final Class<?>[] LETTERS = {
        ArithmeticException.class, NullPointerException.class, ArrayIndexOutOfBoundsException.class, ClassCastException.class,
        NegativeArraySizeException.class, ArrayStoreException.class, IllegalStateException.class};
    private static final Class<?>[] KINDS = {
        int[].class, long[].class, short[].class, byte[].class, char[].class, boolean[].class, float[].class, double[].class};

    private final Object[] places = new Object[32];
    private final int[][] program = new int[256][];
    private final int[] counts = new int[6];
    private long acc;

    PlainMill() {
        for (int k = 0; k < 256; k++) {
            program[k] = new int[] {40, 0, 0, 0};
        }
    }

    long op(int what, int a, int b, int c) {
        try {
            long answer = perform(what, a, b, c);
            counts[0]++;
            return answer;
        } catch (RuntimeException e) {
            counts[3]++;
            throw e;
        }
    }

    int load(int k, int what, int a, int b, int c) {
        program[k] = new int[] {what, a, b, c};
        return k;
    }

    int run(int from, int fuel) {
        counts[4] = fuel < 0 ? 0 : fuel > 200 ? 200 : fuel;
        if (from < 0 || from > 255) {
            return 0;
        }
        try {
            block(from, 256);
            return 0;
        } catch (Ended e) {
            return e.answer;
        } catch (RuntimeException e) {
            counts[3]++;
            throw e;
        }
    }

    long acc() {
        return acc;
    }

    int count(int what) {
        return what < 0 || what > 5 ? -1 : counts[what];
    }

    private void block(int from, int end) {
        int at = from;
        while (at < end) {
            if (counts[4] == 0) {
                throw new Ended(1);
            }
            counts[4]--;
            int[] now = program[at++];
            int next = (int) Math.min(end, (long) at + Math.max(0, now[1]));
            switch (now[0]) {
                case 40:
                    counts[0]++;
                    throw new Ended(0);
                case 41:
                    acc = now[1];
                    break;
                case 42:
                    acc += now[1];
                    break;
                case 43:
                    at = acc < 0 ? next : at;
                    break;
                case 44:
                    repeat(at, next, now[2]);
                    at = next;
                    break;
                case 45:
                    attempt(at, next, now[2] & 7);
                    at = next;
                    break;
                default:
                    acc = perform(now[0], now[1], now[2], now[3]);
                    break;
            }
            counts[0]++;
        }
    }

    private void repeat(int from, int end, int times) {
        try {
            for (int k = 0; k < times && end > from; k++) {
                block(from, end);
            }
        } catch (Ended e) {
            counts[0]++;
            throw e;
        }
    }

    private void attempt(int from, int end, int how) {
        try {
            block(from, end);
        } catch (Ended e) {
            counts[0]++;
            throw e;
        } catch (RuntimeException e) {
            boolean mine = how == 0 && e instanceof ArithmeticException || how == 1 && e instanceof NullPointerException
                || how == 2 && e instanceof ArrayIndexOutOfBoundsException || how == 4 || how == 7 && e instanceof IllegalStateException
                || how == 3 && (e instanceof ClassCastException || e instanceof ArrayStoreException);
            if (!mine) {
                throw e;
            }
            counts[1]++;
            for (int sort = 0; sort < 7; sort++) {
                acc = LETTERS[sort].isInstance(e) ? -1 - sort : acc;
            }
        } finally {
            counts[2] += how == 6 ? 1 : 0;
        }
    }

    private static Rolls[] rack(Object thing) {
        // For Java a Disc[] is a Rolls[], but a CASE is no RACK.
        if (thing instanceof Box[]) {
            throw new ClassCastException();
        }
        return (Rolls[]) thing;
    }

    private Object row(int a, int b) {
        Object row = KINDS[b & 7].cast(places[a]);
        if (row == null) {
            throw new NullPointerException();
        }
        return row;
    }

    private static long get(Object row, int c) {
        if (row instanceof boolean[]) {
            return ((boolean[]) row)[c] ? 1 : 0;
        } else if (row instanceof char[]) {
            return ((char[]) row)[c];
        } else if (row instanceof float[]) {
            return (long) ((float[]) row)[c];
        } else if (row instanceof double[]) {
            return (long) ((double[]) row)[c];
        }
        return java.lang.reflect.Array.getLong(row, c);
    }

    private static void set(Object row, int c, long value) {
        switch (row.getClass().getSimpleName()) {
            case "int[]": ((int[]) row)[c] = (int) value; break;
            case "long[]": ((long[]) row)[c] = value; break;
            case "short[]": ((short[]) row)[c] = (short) value; break;
            case "byte[]": ((byte[]) row)[c] = (byte) value; break;
            case "char[]": ((char[]) row)[c] = (char) value; break;
            case "boolean[]": ((boolean[]) row)[c] = value != 0; break;
            case "float[]": ((float[]) row)[c] = value; break;
            default: ((double[]) row)[c] = value; break;
        }
    }

    private void make(int a, Object thing) {
        places[a] = thing;
        counts[5]++;
    }

    private Object newBox(int b) {
        if ((b & 3) == 3) {
            Drum drum = new Drum();
            drum.value = (int) acc;
            return drum;
        }
        Box box = (b & 3) == 0 ? new Stone() : (b & 3) == 1 ? new Disc() : new Ball();
        box.value = (int) acc;
        if (box instanceof Disc) {
            ((Disc) box).rim = (int) acc;
        }
        return box;
    }

    private static RuntimeException newLetter(int b) {
        try {
            int sort = b == Integer.MIN_VALUE ? 0 : Math.abs(b) % 7;
            return (RuntimeException) LETTERS[sort].getDeclaredConstructor().newInstance();
        } catch (ReflectiveOperationException e) {
            throw new AssertionError(e);
        }
    }

    private boolean is(Object thing, int sort) {
        switch (sort) {
            case 8: return thing instanceof int[][];
            case 9: return thing instanceof Box[];
            case 10: return thing instanceof Disc[];
            case 11: return thing instanceof Rolls[] && !(thing instanceof Box[]);
            case 12: return thing instanceof Box;
            case 13: return thing instanceof Disc;
            case 14: return thing instanceof Rolls;
            case 15: return thing instanceof RuntimeException;
            default: return KINDS[sort].isInstance(thing);
        }
    }

    private static int weigh(Box box, int b) {
        if (box instanceof Ball) {
            return box.value * 5 - b + 1;
        }
        return box instanceof Disc ? box.value * 5 - b : box.value * 3 + b;
    }

    private long perform(int what, int a, int b, int c) {
        if ((what == 0 || what == 4 || what == 9 || what == 13 || what == 14) && counts[5] >= 6000) {
            throw new IllegalStateException();
        }
        switch (what) {
            case 0: case 4: case 9: case 13: case 14: return makeOne(what, a, b, c);
            case 1: return get(row(a, b), c);
            case 2: set(row(a, b), c, acc); return acc;
            case 3: return java.lang.reflect.Array.getLength(row(a, b));
            case 5: return ((int[][]) places[a])[b][c];
            case 6: ((int[][]) places[a])[b][c] = (int) acc; return 0;
            case 7: look(c); places[c] = ((int[][]) places[a])[b]; return 0;
            case 8: { int[][] sheet = (int[][]) places[a]; int[] row = (int[]) places[c]; sheet[b] = row; return 0; }
            case 10: { Box[] all = (Box[]) places[a]; Box box = (Box) places[c]; all[b] = box; return 0; }
            case 11: { Rolls[] all = rack(places[a]); Rolls one = (Rolls) places[c]; all[b] = one; return 0; }
            case 12: look(c); places[c] = ((Box[]) places[a])[b]; return 0;
            case 15: return ((Box) places[a]).value;
            case 16: { Box box = (Box) places[a]; int was = box.value; box.value = (int) acc; return was; }
            case 17: { Box box = (Box) places[a]; Box next = (Box) places[b]; box.next = next; return 0; }
            case 18: look(b); places[b] = ((Box) places[a]).next; return 0;
            case 19: return weigh((Box) places[a], b);
            case 20: return ((Rolls) places[a]).roll(b);
            case 21: return ((Disc) places[a]).rim;
            case 22: return (int) acc / b;
            case 23: return (int) acc % b;
            case 24: return acc / b;
            case 25: return acc % b;
            case 26: throw (RuntimeException) places[a];
            case 27: return is(places[a], b & 15) ? 1 : 0;
            case 28: places[a] = null; return 0;
            case 29: look(b); places[b] = places[a]; return 0;
            case 30: return places[a] == places[b] ? 1 : 0;
            case 31: System.arraycopy(places[a], (byte) (c >> 16), places[b], (byte) (c >> 8), (byte) c); return 0;
            default: return -1;
        }
    }

    private static void look(int place) {
        if (place < 0 || place > 31) {
            throw new ArrayIndexOutOfBoundsException();
        }
    }

    private long makeOne(int what, int a, int b, int c) {
        look(a);
        switch (what) {
            case 0: {
                Object row = java.lang.reflect.Array.newInstance(KINDS[b & 7].getComponentType(), c % 100);
                make(a, row);
                return c % 100;
            }
            case 4: make(a, new int[b % 9][c % 9]); return 0;
            case 9: {
                int n = c % 40;
                make(a, (b & 3) == 0 ? new Box[n] : (b & 3) == 1 ? new Disc[n] : new Rolls[n]);
                return n;
            }
            case 13: make(a, newBox(b)); return 0;
            default: make(a, newLetter(b)); return 0;
        }
    }
}
