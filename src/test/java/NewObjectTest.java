/** Promise 1: nothing in the places, ACC 0, a program of 256 operations 40. */
final class NewObjectTest {
    public static void main(String[] args) {
        new Bench().acc(0).counts(0, 0, 0, 0, 0, 0);
        Bench empty = new Bench();
        for (int place = 0; place < 32; place++) {
            empty.op(1, 30, place, 0, 0);
            for (int sort = 0; sort < 16; sort++) {
                empty.op(0, 27, place, sort, 0);
            }
            empty.op(Bench.NULL, 3, place, 0, 0);
        }
        Bench stopped = new Bench();
        for (int from = 0; from < 256; from++) {
            stopped.run(0, from, 200).count(199, 4).count(from + 1, 0);
        }
        // The objects share nothing.
        new Bench().give(7).op(0, 13, 0, 0, 0);
        new Bench().acc(0).op(0, 27, 0, 12, 0).run(0, 0, 9).acc(0);
        Bench.finish();
    }
}
