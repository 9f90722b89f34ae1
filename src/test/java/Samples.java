/** Objects that tests begin with. */
final class Samples {
    /** The SETTINGS of varied(). */
    static final int VARIED_ROOM = 25, VARIED_SLOW = 12, VARIED_FAST = 7, VARIED_CARRY = 3;

    private Samples() { }

    /** PARTS of RUNS 1 and WORST 2, THINGS of these SIZES. */
    static FastShelf make(int parts, int... sizes) {
        FastShelf x = new FastShelf();
        for (int p = 0; p < parts; p++) x.part(1, 2);
        for (int size : sizes) x.thing(size);
        return x;
    }

    static void tell(FastShelf x, int... sets) {
        for (int p = 0; p < sets.length; p++) x.plan(p, sets[p]);
    }

    /** All numbers of it differ as far as may be, so that one that is taken for another is seen; 79 calls at most. */
    static FastShelf varied(int parts, int things) {
        FastShelf x = new FastShelf();
        x.setting(0, VARIED_ROOM);
        x.setting(1, VARIED_SLOW);
        x.setting(2, VARIED_FAST);
        x.setting(3, VARIED_CARRY);
        for (int p = 0; p < parts; p++) x.part(2 + p * 3, 40 + p * 5);
        for (int t = 0; t < things; t++) x.thing(3 + t * 4);
        for (int p = 0; p < parts; p++) {
            for (int t = 0; t < things; t++) x.uses(t, p, (t * 3 + p * 7 + 1) % 10, (t + p) % 3 == 0 ? (t + p) % 9 + 1 : 0);
        }
        for (int p = 0; p < parts; p++) x.plan(p, (p * 11 + 5) % (1 << things));
        return x;
    }

    /** As many PARTS and THINGS as may be, each number the greatest that is taken; ROOM 60. */
    static FastShelf heaviest() {
        FastShelf x = new FastShelf();
        for (int p = 0; p < 10; p++) x.part(99, 99);
        for (int t = 0; t < 5; t++) x.thing(20);
        for (int t = 0; t < 5; t++) {
            for (int p = 0; p < 10; p++) x.uses(t, p, 9, 9);
        }
        x.setting(0, 60);
        x.setting(1, 20);
        x.setting(2, 20);
        x.setting(3, 20);
        return x;
    }
}
