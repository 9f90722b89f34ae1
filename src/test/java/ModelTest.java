import java.util.Random;

/** Long runs of calls, the same each time, whose every answer is held against the plain model's. */
public final class ModelTest {
    private static final int CALLS = 512;
    private static int wrong = 0;

    private final Random random;
    private final FastShelf shelf = new FastShelf();
    private final PlainModel model = new PlainModel();
    private final StringBuilder told = new StringBuilder();
    private final int mostParts;
    private final int mostThings;
    private int calls = 0;
    private boolean failed = false;

    private ModelTest(long seed, int mostParts, int mostThings) {
        random = new Random(seed);
        this.mostParts = mostParts;
        this.mostThings = mostThings;
    }

    public static void main(String[] args) {
        int[][] shapes = {{2, 5}, {3, 4}, {4, 3}, {5, 3}, {7, 2}, {10, 1}, {5, 4}, {10, 3}};
        for (int seed = 0; seed < 96; seed++) {
            int[] shape = shapes[seed % shapes.length];
            new ModelTest(seed, shape[0], shape[1]).run();
        }
        for (int seed = 1000; seed < 1012; seed++) new ModelTest(seed, 10, 5).run();
        System.out.println(wrong == 0 ? "all runs are as the model's" : wrong + " runs are not as the model's");
        if (wrong != 0) System.exit(1);
    }

    private void run() {
        int parts = 1 + random.nextInt(mostParts);
        int things = 1 + random.nextInt(mostThings);
        for (int p = 0; p < parts; p++) check(0, 1 + random.nextInt(9), 10 + random.nextInt(40), 0, 0);
        int size = random.nextBoolean() ? 20 : 6;
        for (int t = 0; t < things; t++) check(3, 1 + random.nextInt(size), 0, 0, 0);
        while (calls < CALLS && !failed) step();
    }

    private void step() {
        int roll = random.nextInt(100);
        if (roll < 10) check(4, thing(), part(), pick(10, 0.02), random.nextInt(3) == 0 ? pick(10, 0.02) : 0);
        else if (roll < 20) check(8, part(), pick(1 << model.things(), 0.03), 0, 0);
        else if (roll < 24) check(6, pick(4, 0.05), random.nextInt(24) - 1, 0, 0);
        else if (roll < 27) check(6, 0, pick(61, 0.03), 0, 0);
        else any(random.nextInt(Calls.COUNT));
    }

    private void any(int which) {
        if (which == 0 && model.parts() >= mostParts && mostParts < 10) return;
        if (which == 3 && model.things() >= mostThings && mostThings < 5) return;
        // Enough PARTS and THINGS stay that there is something to look at.
        if (which == 2 && model.parts() > 0 && random.nextInt(3) != 0) return;
        switch (which) {
            case 0: check(0, pick(20, 0.1), 10 + pick(90, 0.05), 0, 0); break;
            case 1: check(1, part(), pick(20, 0.1), 10 + pick(90, 0.05), 0); break;
            case 3: check(3, pick(21, 0.05), 0, 0, 0); break;
            case 5: check(5, thing(), pick(21, 0.05), 0, 0); break;
            case 7: check(7, part(), what(), 0, 0); break;
            case 13: check(13, what(), 0, 0, 0); break;
            case 14: check(14, pick(2, 0.03), pick(2, 0.03), pick(61, 0.03), 0); break;
            case 15: check(15, part(), pick(2, 0.03), pick(2, 0.03), 0); break;
            case 16: check(16, pick(2, 0.03), sum(), 0, 0); break;
            case 17: check(17, pick(2, 0.03), random.nextInt(20) == 0 ? pick(60, 0.3) : random.nextInt(6), 0, 0); break;
            case 18: check(18, thing(), part(), order(), 0); break;
            case 19: case 21: check(which, order(), 0, 0, 0); break;
            case 22: check(22, part(), pick(2, 0.03), pick(3, 0.05), 0); break;
            case 10: check(10, part(), 0, 0, 0); break;
            default: check(which, pick(which == 24 ? 4 : 2, 0.05), pick(2, 0.05), 0, 0);
        }
    }

    private int part() {
        return pick(model.parts(), 0.02);
    }

    private int thing() {
        return pick(model.things(), 0.02);
    }

    private int what() {
        int roll = random.nextInt(4);
        return roll == 0 ? pick(2, 0.2) : roll == 1 ? random.nextInt(31) : 10 * (1 + roll % 2) + thing();
    }

    private int order() {
        return pick(model.call(24, 3, 0, 0, 0), 0.03);
    }

    /** Near to what the best plan costs, where the answers of room change. */
    private int sum() {
        if (random.nextInt(20) == 0) return pick(10000000, 0.3);
        return model.call(14, 0, random.nextInt(2), random.nextInt(61), 0) + random.nextInt(3) - 1;
    }

    private int pick(int count, double strange) {
        if (count <= 0 || random.nextDouble() < strange) {
            int[] odd = {-1, count, count + 1, Integer.MIN_VALUE, Integer.MAX_VALUE};
            return odd[random.nextInt(odd.length)];
        }
        return random.nextInt(count);
    }

    private void check(int which, int a, int b, int c, int d) {
        if (failed) return;
        calls++;
        int got = Calls.ask(shelf, which, a, b, c, d);
        int want = model.call(which, a, b, c, d);
        told.append(Calls.text(which, a, b, c, d)).append(" = ").append(got).append('\n');
        if (got == want) return;
        failed = true;
        wrong++;
        System.out.println("a run of calls:\n" + told + "due is " + want);
    }
}
