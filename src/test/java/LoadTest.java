/** Promise 3: an operation of the program is given, its number is the answer. */
final class LoadTest {
    public static void main(String[] args) {
        everyPlaceOfTheProgram();
        wrongPlaces();
        allFourNumbers();
        Bench.finish();
    }

    private static void everyPlaceOfTheProgram() {
        Bench bench = new Bench();
        for (int k = 0; k < 256; k++) {
            bench.load(Integer.toString(k), k, 41, 1000 + k, 0, 0);
        }
        for (int k = 0; k < 256; k++) {
            bench.run(k == 255 ? 0 : 1, k, 1).acc(1000 + k);
        }
    }

    private static void wrongPlaces() {
        Bench bench = new Bench();
        for (int k : new int[] {-1, 256, Integer.MIN_VALUE, Integer.MAX_VALUE}) {
            bench.load(Bench.INDEX, k, 41, 5, 0, 0);
        }
        // What load lets out is not counted, nor is a load an operation; the program is as it was.
        bench.load("7", 7, 41, 5, 0, 0).counts(0, 0, 0, 0, 0, 0).acc(0).run(0, 0, 9).run(0, 255, 9).acc(0);
    }

    private static void allFourNumbers() {
        // The later load of one operation counts; a, b and c all come.
        new Bench().load("3", 3, 41, 1, 0, 0).load("3", 3, 0, 31, 2, 17).run(0, 3, 9).acc(17).op(17, 3, 31, 2, 0)
            .load("3", 3, -5, 0, 0, 0).run(0, 3, 9).acc(-1);
    }
}
