/**
 * A mill of things in places: rows of all kinds, sheets, cases, boxes of several sorts, and letters
 * that can be thrown.
 *
 * <p>Inside, an exception is a number (its sort, as of LETTERS) in the field {@code fault}: only the
 * face throws, when the call ends. So a program that catches thousands of them makes no object.
 */
public final class FaultMill {
    private static final int PLACE_COUNT = 32;
    private static final int PROGRAM_LENGTH = 256;
    private static final int MOST_FUEL = 200;
    private static final int MOST_THINGS = 6000;

    // An operation of the program is its number, a, b and c, one behind the other.
    private static final int WORDS = 4;

    private static final int NO_FAULT = -1;
    private static final int ARITHMETIC = 0;
    private static final int NULL_POINTER = 1;
    private static final int ARRAY_INDEX = 2;
    private static final int CLASS_CAST = 3;
    private static final int NEGATIVE_SIZE = 4;
    private static final int ARRAY_STORE = 5;
    private static final int ILLEGAL_STATE = 6;
    private static final int FAULT_SORTS = 7;

    // What a thing can be, numbered as operation 27 asks for it; 0 to 7 are the kinds of rows.
    private static final int INTS = 0;
    private static final int LONGS = 1;
    private static final int SHORTS = 2;
    private static final int BYTES = 3;
    private static final int CHARS = 4;
    private static final int BOOLEANS = 5;
    private static final int FLOATS = 6;
    private static final int SHEET = 8;
    private static final int CASE = 9;
    private static final int DISC_CASE = 10;
    private static final int RACK = 11;
    private static final int BOX = 12;
    private static final int DISC = 13;
    private static final int ROLLING = 14;
    private static final int LETTER = 15;
    private static final int KIND_BITS = 7;
    private static final int SORT_BITS = 15;

    private static final int STOP = 40;
    private static final int CONST = 41;
    private static final int ADD = 42;
    private static final int IF = 43;
    private static final int REPEAT = 44;
    private static final int TRY = 45;

    // What a block catches: the lowest bits of a TRY's b, and a number beyond them for a REPEAT.
    private static final int CATCH_BITS = 7;
    private static final int CATCH_CAST_OR_STORE = 3;
    private static final int CATCH_ANY = 4;
    private static final int CATCH_NONE_BUT_FINALS = 6;
    private static final int CATCH_STATE = 7;
    private static final int CATCH_IS_NO_TRY = 8;

    private final Thing[] places;
    private final int[] program;
    private final Blocks blocks;
    private long acc;
    private int fault;
    private int at;
    private int fuelLeft;
    private int done;
    private int caught;
    private int finals;
    private int letOut;
    private int made;

    public FaultMill() {
        places = new Thing[PLACE_COUNT];
        program = new int[PROGRAM_LENGTH * WORDS];
        for (int k = 0; k < PROGRAM_LENGTH; k++) {
            program[k * WORDS] = STOP;
        }
        blocks = new Blocks();
        fault = NO_FAULT;
    }

    public long op(int what, int a, int b, int c)
            throws ArithmeticException, NullPointerException, ArrayIndexOutOfBoundsException,
            ClassCastException, NegativeArraySizeException, ArrayStoreException, IllegalStateException {
        fault = NO_FAULT;
        long answer = answerOf(what, a, b, c);
        letFaultOut();
        done++;
        return answer;
    }

    public int load(int k, int what, int a, int b, int c) throws ArrayIndexOutOfBoundsException {
        if (k < 0 || k >= PROGRAM_LENGTH) {
            throw new ArrayIndexOutOfBoundsException("the program's operations are 0 to 255");
        }
        int base = k * WORDS;
        program[base] = what;
        program[base + 1] = a;
        program[base + 2] = b;
        program[base + 3] = c;
        return k;
    }

    public int run(int from, int fuel)
            throws ArithmeticException, NullPointerException, ArrayIndexOutOfBoundsException,
            ClassCastException, NegativeArraySizeException, ArrayStoreException, IllegalStateException {
        fault = NO_FAULT;
        fuelLeft = Math.max(0, Math.min(fuel, MOST_FUEL));
        at = from >= 0 && from < PROGRAM_LENGTH ? from : PROGRAM_LENGTH;
        while (fuelLeft > 0 && at < PROGRAM_LENGTH) {
            fuelLeft--;
            step();
        }
        letFaultOut();
        if (at >= PROGRAM_LENGTH) {
            return 0;
        }
        closeAllBlocks();
        return 1;
    }

    public long acc() {
        return acc;
    }

    public int count(int what) {
        switch (what) {
            case 0: return done;
            case 1: return caught;
            case 2: return finals;
            case 3: return letOut;
            case 4: return fuelLeft;
            case 5: return made;
            default: return -1;
        }
    }

    private void letFaultOut() {
        if (fault != NO_FAULT) {
            letOut++;
            throwFault(fault);
        }
    }

    private static void throwFault(int sort) {
        switch (sort) {
            case ARITHMETIC: throw new ArithmeticException();
            case NULL_POINTER: throw new NullPointerException();
            case ARRAY_INDEX: throw new ArrayIndexOutOfBoundsException();
            case CLASS_CAST: throw new ClassCastException();
            case NEGATIVE_SIZE: throw new NegativeArraySizeException();
            case ARRAY_STORE: throw new ArrayStoreException();
            default: throw new IllegalStateException();
        }
    }

    // ---- Programs ----

    /** Does the operation at {@code at}; then {@code at} is the next one, or the program's end. */
    private void step() {
        int base = at * WORDS;
        int what = program[base];
        at++;
        if (what >= STOP && what <= TRY) {
            control(what, program[base + 1], program[base + 2]);
        } else {
            long answer = answerOf(what, program[base + 1], program[base + 2], program[base + 3]);
            if (fault == NO_FAULT) {
                acc = answer;
                done++;
            } else {
                unwind();
            }
        }
        leaveFinishedBlocks();
    }

    private void control(int what, int a, int b) {
        switch (what) {
            case REPEAT:
                repeat(a, b);
                return;
            case TRY:
                blocks.open(at, endOfNext(a), 1, b & CATCH_BITS);
                return;
            case STOP:
                closeAllBlocks();
                at = PROGRAM_LENGTH;
                break;
            case CONST:
                acc = a;
                break;
            case ADD:
                acc += a;
                break;
            case IF:
                if (acc < 0) {
                    at = endOfNext(a);
                }
                break;
            default:
                break;
        }
        done++;
    }

    private void repeat(int a, int b) {
        int end = endOfNext(a);
        // A block without operations takes no FUEL, so its turns would not end by the lack of it.
        if (end > at && b > 0) {
            blocks.open(at, end, b, CATCH_IS_NO_TRY);
        } else {
            at = end;
            done++;
        }
    }

    /** Where the next {@code a} operations end, within those that the present one is among. */
    private int endOfNext(int a) {
        int end = blocks.innerEnd();
        int wanted = Math.max(a, 0);
        return wanted < end - at ? at + wanted : end;
    }

    private void leaveFinishedBlocks() {
        for (int open = blocks.depth; open > 0 && at >= blocks.innerEnd(); open--) {
            if (blocks.takeTurn()) {
                at = blocks.innerStart();
                return;
            }
            closeBlock();
        }
    }

    private void closeAllBlocks() {
        for (int open = blocks.depth; open > 0; open--) {
            closeBlock();
        }
    }

    private void closeBlock() {
        if (blocks.innerCatch() == CATCH_NONE_BUT_FINALS) {
            finals++;
        }
        done++;
        blocks.drop();
    }

    /** Leaves the blocks that don't catch the fault; the program ends if none does. */
    private void unwind() {
        for (int open = blocks.depth; open > 0; open--) {
            int catching = blocks.innerCatch();
            if (isCaught(catching)) {
                at = blocks.innerEnd();
                acc = -1L - fault;
                fault = NO_FAULT;
                caught++;
                closeBlock();
                return;
            }
            if (catching == CATCH_NONE_BUT_FINALS) {
                finals++;
            }
            blocks.drop();
        }
        at = PROGRAM_LENGTH;
    }

    private boolean isCaught(int catching) {
        switch (catching) {
            case ARITHMETIC:
            case NULL_POINTER:
            case ARRAY_INDEX: return fault == catching;
            case CATCH_CAST_OR_STORE: return fault == CLASS_CAST || fault == ARRAY_STORE;
            case CATCH_ANY: return true;
            case CATCH_STATE: return fault == ILLEGAL_STATE;
            default: return false;
        }
    }

    // ---- Operations: one that tells a fault answers 0, which nobody sees ----

    private long answerOf(int what, int a, int b, int c) {
        switch (what) {
            case 0: return makeRow(a, b, c);
            case 1: return rowCell(a, b, c);
            case 2: return setRowCell(a, b, c);
            case 3: return rowLength(a, b);
            case 4: return makeSheet(a, b, c);
            case 5: return readCell(sheetRow(a, b, c), c);
            case 6: return markCell(sheetRow(a, b, c), c);
            case 7: return takeOut(SHEET, a, b, c);
            case 8: return putIn(SHEET, INTS, a, b, c);
            case 9: return makeCase(a, b, c);
            case 10: return putIn(CASE, BOX, a, b, c);
            case 11: return putIn(RACK, ROLLING, a, b, c);
            case 12: return takeOut(CASE, a, b, c);
            case 13: return makeBox(a, b);
            case 14: return makeLetter(a, b);
            case 15: return boxValue(a);
            case 16: return changeBox(a);
            case 17: return linkBox(a, b);
            case 18: return followBox(a, b);
            case 19: return weigh(a, b);
            case 20: return roll(a, b);
            case 21: return rim(a);
            case 22: return isDivisor(b) ? (int) acc / b : 0;
            case 23: return isDivisor(b) ? (int) acc % b : 0;
            case 24: return isDivisor(b) ? acc / b : 0;
            case 25: return isDivisor(b) ? acc % b : 0;
            case 26: return raise(a);
            case 27: return holdsSort(a, b);
            case 28: return clear(a);
            case 29: return move(a, b);
            case 30: return holdSame(a, b);
            case 31: return copy(a, b, c);
            default: return -1;
        }
    }

    // ---- What is looked at before an operation; a "no" tells the fault ----

    private boolean tell(int sort) {
        fault = sort;
        return false;
    }

    private boolean isPlace(int x) {
        return (x >= 0 && x < PLACE_COUNT) || tell(ARRAY_INDEX);
    }

    private boolean isCell(int i, int length) {
        return (i >= 0 && i < length) || tell(ARRAY_INDEX);
    }

    private boolean isSpan(int start, int n, int length) {
        return (start >= 0 && n >= 0 && n <= length - start) || tell(ARRAY_INDEX);
    }

    private boolean isSize(int n) {
        return n >= 0 || tell(NEGATIVE_SIZE);
    }

    private boolean isDivisor(int b) {
        return b != 0 || tell(ARITHMETIC);
    }

    private boolean isThere(Thing thing) {
        return thing != null || tell(NULL_POINTER);
    }

    private boolean mayMake() {
        return made < MOST_THINGS || tell(ILLEGAL_STATE);
    }

    /** Whether x is a place with nothing or a thing of this sort. */
    private boolean fits(int x, int sort) {
        if (!isPlace(x)) {
            return false;
        }
        Thing there = places[x];
        return there == null || there.isOf(sort) || tell(CLASS_CAST);
    }

    /** The thing of this sort at x; nothing (and a fault is told) if none is there. */
    private Thing needed(int x, int sort) {
        return fits(x, sort) && isThere(places[x]) ? places[x] : null;
    }

    // ---- Rows and sheets ----

    private void putNew(int a, Thing thing) {
        places[a] = thing;
        made++;
    }

    private long makeRow(int a, int b, int c) {
        int length = c % 100;
        if (!mayMake() || !isPlace(a) || !isSize(length)) {
            return 0;
        }
        putNew(a, new Row(b & KIND_BITS, length));
        return length;
    }

    private long rowCell(int a, int b, int c) {
        if (needed(a, b & KIND_BITS) instanceof Row row && isCell(c, row.cells.length)) {
            return row.cells[c];
        }
        return 0;
    }

    private long setRowCell(int a, int b, int c) {
        if (needed(a, b & KIND_BITS) instanceof Row row && isCell(c, row.cells.length)) {
            row.cells[c] = row.asCell(acc);
            return acc;
        }
        return 0;
    }

    private long rowLength(int a, int b) {
        return needed(a, b & KIND_BITS) instanceof Row row ? row.cells.length : 0;
    }

    private long makeSheet(int a, int b, int c) {
        int height = b % 9;
        int width = c % 9;
        if (!mayMake() || !isPlace(a) || !isSize(height) || !isSize(width)) {
            return 0;
        }
        Shelf sheet = new Shelf(SHEET, INTS, height);
        for (int i = 0; i < height; i++) {
            sheet.cells[i] = new Row(INTS, width);
        }
        putNew(a, sheet);
        return 0;
    }

    /** Row b of the sheet at a, if it has a cell c; else nothing, and a fault is told. */
    private Row sheetRow(int a, int b, int c) {
        if (needed(a, SHEET) instanceof Shelf sheet && isCell(b, sheet.cells.length)
                && isThere(sheet.cells[b]) && sheet.cells[b] instanceof Row row
                && isCell(c, row.cells.length)) {
            return row;
        }
        return null;
    }

    private static long readCell(Row row, int c) {
        return row != null && c >= 0 && c < row.cells.length ? row.cells[c] : 0;
    }

    private long markCell(Row row, int c) {
        if (row != null && c >= 0 && c < row.cells.length) {
            row.cells[c] = row.asCell(acc);
        }
        return 0;
    }

    // ---- Cases and racks; sheets too give and take whole rows ----

    private long makeCase(int a, int b, int c) {
        int length = c % 40;
        if (!mayMake() || !isPlace(a) || !isSize(length)) {
            return 0;
        }
        putNew(a, newCase(b & 3, length));
        return length;
    }

    private static Shelf newCase(int choice, int length) {
        switch (choice) {
            case 0: return new Shelf(CASE, BOX, length);
            case 1: return new Shelf(DISC_CASE, DISC, length);
            default: return new Shelf(RACK, ROLLING, length);
        }
    }

    private long putIn(int shelfSort, int thingSort, int a, int b, int c) {
        if (fits(a, shelfSort) && fits(c, thingSort) && needed(a, shelfSort) instanceof Shelf shelf
                && isCell(b, shelf.cells.length)
                && (shelf.takes(places[c]) || tell(ARRAY_STORE))) {
            shelf.cells[b] = places[c];
        }
        return 0;
    }

    private long takeOut(int shelfSort, int a, int b, int c) {
        if (isPlace(c) && needed(a, shelfSort) instanceof Shelf shelf
                && isCell(b, shelf.cells.length)) {
            places[c] = shelf.cells[b];
        }
        return 0;
    }

    // ---- Boxes, drums and letters ----

    // The box is made here, not in a method of its own: a BALL's constructors are four calls deep.
    private long makeBox(int a, int b) {
        if (!mayMake() || !isPlace(a)) {
            return 0;
        }
        int value = (int) acc;
        switch (b & 3) {
            case 0: putNew(a, new Stone(value)); break;
            case 1: putNew(a, new Disc(value)); break;
            case 2: putNew(a, new Ball(value)); break;
            default: putNew(a, new Drum(value)); break;
        }
        return 0;
    }

    private long makeLetter(int a, int b) {
        if (mayMake() && isPlace(a)) {
            // The least int has no positive counterpart, so abs leaves its sign.
            int sort = b == Integer.MIN_VALUE ? 0 : Math.abs(b) % FAULT_SORTS;
            putNew(a, new Letter(sort));
        }
        return 0;
    }

    private long boxValue(int a) {
        return needed(a, BOX) instanceof Box box ? box.value : 0;
    }

    private long changeBox(int a) {
        if (needed(a, BOX) instanceof Box box) {
            int before = box.value;
            box.value = (int) acc;
            return before;
        }
        return 0;
    }

    private long linkBox(int a, int b) {
        if (fits(a, BOX) && fits(b, BOX) && needed(a, BOX) instanceof Box box) {
            box.next = places[b] instanceof Box next ? next : null;
        }
        return 0;
    }

    private long followBox(int a, int b) {
        if (isPlace(b) && needed(a, BOX) instanceof Box box) {
            places[b] = box.next;
        }
        return 0;
    }

    private long weigh(int a, int b) {
        return needed(a, BOX) instanceof Box box ? box.weight(b) : 0;
    }

    private long roll(int a, int b) {
        return needed(a, ROLLING) instanceof Rolling rolling ? rolling.rolled(b) : 0;
    }

    private long rim(int a) {
        return needed(a, DISC) instanceof Disc disc ? disc.rim : 0;
    }

    private long raise(int a) {
        if (needed(a, LETTER) instanceof Letter letter) {
            tell(letter.sort);
        }
        return 0;
    }

    // ---- Places ----

    private long holdsSort(int a, int b) {
        return isPlace(a) && places[a] != null && places[a].isOf(b & SORT_BITS) ? 1 : 0;
    }

    private long clear(int a) {
        if (isPlace(a)) {
            places[a] = null;
        }
        return 0;
    }

    private long move(int a, int b) {
        if (isPlace(b) && isPlace(a)) {
            places[b] = places[a];
        }
        return 0;
    }

    private long holdSame(int a, int b) {
        return isPlace(a) && isPlace(b) && places[a] == places[b] ? 1 : 0;
    }

    private long copy(int a, int b, int c) {
        if (!isPlace(a) || !isPlace(b) || !isThere(places[a]) || !isThere(places[b])) {
            return 0;
        }
        int i = (byte) (c >> 16);
        int j = (byte) (c >> 8);
        int n = (byte) c;
        Thing from = places[a];
        Thing to = places[b];
        if (from instanceof Row source && to instanceof Row goal && source.kind == goal.kind) {
            copyCells(source, i, goal, j, n);
        } else if (from instanceof Shelf source && to instanceof Shelf goal) {
            copyThings(source, i, goal, j, n);
        } else {
            tell(ARRAY_STORE);
        }
        return 0;
    }

    private void copyCells(Row from, int i, Row to, int j, int n) {
        if (isSpan(i, n, from.cells.length) && isSpan(j, n, to.cells.length)) {
            System.arraycopy(from.cells, i, to.cells, j, n);
        }
    }

    private void copyThings(Shelf from, int i, Shelf to, int j, int n) {
        if (!isSpan(i, n, from.cells.length) || !isSpan(j, n, to.cells.length)) {
            return;
        }
        // Within one shelf the spans may overlap: what is yet to come must not be written over. All that
        // is in it can be in it, so the order tells on nothing else.
        boolean backwards = from == to && i < j;
        for (int k = 0; k < n; k++) {
            int offset = backwards ? n - 1 - k : k;
            Thing thing = from.cells[i + offset];
            if (!to.takes(thing)) {
                tell(ARRAY_STORE);
                return;
            }
            to.cells[j + offset] = thing;
        }
    }

    /** The REPEATs and TRYs that are under way, the innermost last. */
    private static final class Blocks {
        private final int[] starts;
        private final int[] ends;
        private final int[] turns;
        private final int[] catches;
        private int depth;

        Blocks() {
            // Each one took a FUEL, so no more can be under way.
            starts = new int[MOST_FUEL];
            ends = new int[MOST_FUEL];
            turns = new int[MOST_FUEL];
            catches = new int[MOST_FUEL];
        }

        void open(int start, int end, int turnCount, int catching) {
            if (depth < MOST_FUEL) {
                starts[depth] = start;
                ends[depth] = end;
                turns[depth] = turnCount;
                catches[depth] = catching;
                depth++;
            }
        }

        void drop() {
            if (depth > 0) {
                depth--;
            }
        }

        int innerStart() {
            return depth > 0 ? starts[depth - 1] : 0;
        }

        int innerEnd() {
            return depth > 0 ? ends[depth - 1] : PROGRAM_LENGTH;
        }

        int innerCatch() {
            return depth > 0 ? catches[depth - 1] : CATCH_IS_NO_TRY;
        }

        /** Ends a turn of the innermost one; whether another one is due. */
        boolean takeTurn() {
            if (depth == 0 || turns[depth - 1] <= 1) {
                return false;
            }
            turns[depth - 1]--;
            return true;
        }
    }

    private abstract static class Thing {
        abstract boolean isOf(int sort);
    }

    private static final class Row extends Thing {
        private final int kind;
        // All that a cell ever gets comes from a long, so the long that it reads as tells it whole.
        private final long[] cells;

        Row(int kind, int length) {
            this.kind = kind;
            cells = new long[length];
        }

        @Override
        boolean isOf(int sort) {
            return sort == kind;
        }

        /** What a cell of this kind reads as after it was given this value. */
        long asCell(long value) {
            switch (kind) {
                case INTS: return (int) value;
                case LONGS: return value;
                case SHORTS: return (short) value;
                case BYTES: return (byte) value;
                case CHARS: return (char) value;
                case BOOLEANS: return value != 0 ? 1 : 0;
                case FLOATS: return (long) (float) value;
                default: return (long) (double) value;
            }
        }
    }

    /** A sheet, a case or a rack: a row of things of one sort, or of nothing. */
    private static final class Shelf extends Thing {
        private final int ownSort;
        private final int thingSort;
        private final Thing[] cells;

        Shelf(int ownSort, int thingSort, int length) {
            this.ownSort = ownSort;
            this.thingSort = thingSort;
            cells = new Thing[length];
        }

        @Override
        boolean isOf(int sort) {
            return sort == ownSort || (sort == CASE && ownSort == DISC_CASE);
        }

        boolean takes(Thing thing) {
            return thing == null || thing.isOf(thingSort);
        }
    }

    private interface Rolling {
        int rolled(int b);
    }

    private abstract static class Box extends Thing {
        int value;
        Box next;

        Box(int value) {
            this.value = value;
        }

        abstract int weight(int b);
    }

    private static final class Stone extends Box {
        Stone(int value) {
            super(value);
        }

        @Override
        boolean isOf(int sort) {
            return sort == BOX;
        }

        @Override
        int weight(int b) {
            return value * 3 + b;
        }
    }

    private static class Disc extends Box implements Rolling {
        final int rim;

        Disc(int value) {
            super(value);
            rim = value;
        }

        @Override
        boolean isOf(int sort) {
            return sort == BOX || sort == DISC || sort == ROLLING;
        }

        @Override
        int weight(int b) {
            return value * 5 - b;
        }

        @Override
        public int rolled(int b) {
            return value ^ b;
        }
    }

    private static final class Ball extends Disc {
        Ball(int value) {
            super(value);
        }

        @Override
        int weight(int b) {
            return super.weight(b) + 1;
        }

        @Override
        public int rolled(int b) {
            return value | b;
        }
    }

    private static final class Drum extends Thing implements Rolling {
        private final int value;

        Drum(int value) {
            this.value = value;
        }

        @Override
        boolean isOf(int sort) {
            return sort == ROLLING;
        }

        @Override
        public int rolled(int b) {
            return value & b;
        }
    }

    private static final class Letter extends Thing {
        private final int sort;

        Letter(int sort) {
            this.sort = sort;
        }

        @Override
        boolean isOf(int asked) {
            return asked == LETTER;
        }
    }
}
