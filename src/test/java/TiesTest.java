import java.util.Random;

/**
 * "Of several the first as a row of sets": programs of so few different numbers that many PLANS cost the same, whose
 * BEST and STILL are held against the plain model, which tries all PLANS one by one.
 */
public final class TiesTest {
    private static final int[][] SHAPES = {{3, 4}, {4, 3}, {6, 2}, {2, 5}, {10, 1}};
    private static final int PROGRAMS = 120;
    /** 9 cells carried cost what one use saves: SLOW is 10 and FAST is 1 at first. */
    private static final int[] CARRIES = {0, 1, 3, 9};

    private final Random random;
    private final FastShelf shelf = new FastShelf();
    private final PlainModel model = new PlainModel();

    private TiesTest(long seed) {
        random = new Random(seed);
    }

    public static void main(String[] args) {
        for (int seed = 0; seed < PROGRAMS; seed++) {
            int[] shape = SHAPES[seed % SHAPES.length];
            new TiesTest(seed).run(seed, shape[0], shape[1]);
        }
        Check.end("of several the first is told");
    }

    private void run(int seed, int parts, int things) {
        for (int p = 0; p < parts; p++) tell(Calls.PART, 1, 1 + random.nextInt(2), 0, 0);
        for (int t = 0; t < things; t++) tell(Calls.THING, 1 + random.nextInt(3), 0, 0, 0);
        for (int t = 0; t < things; t++) {
            for (int p = 0; p < parts; p++) tell(Calls.USES, t, p, random.nextInt(2), random.nextInt(4) / 3);
        }
        tell(Calls.SETTING, 3, CARRIES[random.nextInt(CARRIES.length)], 0, 0);
        tell(Calls.SETTING, 0, 1 + random.nextInt(2 * things), 0, 0);
        for (int how = 0; how < 2; how++) {
            for (int kind = 0; kind < 2; kind++) compare(seed, parts, how, kind);
        }
    }

    private void tell(int which, int a, int b, int c, int d) {
        Calls.ask(shelf, which, a, b, c, d);
        model.call(which, a, b, c, d);
    }

    private void compare(int seed, int parts, int how, int kind) {
        for (int p = 0; p < parts; p++) {
            String text = "program " + seed + ", " + Calls.text(Calls.BEST_SET, p, how, kind);
            Check.due(text, shelf.bestSet(p, how, kind), model.call(Calls.BEST_SET, p, how, kind, 0));
        }
        String text = "program " + seed + ", " + Calls.text(Calls.TAKE, how, kind);
        Check.due(text, shelf.take(how, kind), model.call(Calls.TAKE, how, kind, 0, 0));
        for (int p = 0; p < parts; p++) {
            Check.due(text + ", PART " + p, shelf.planned(p), model.call(Calls.PLANNED, p, 0, 0, 0));
        }
    }
}
