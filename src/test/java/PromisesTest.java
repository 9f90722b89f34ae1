/** For each promise of the document: ordinary inputs, the edges that it names, and wrong inputs, reckoned by hand. */
public final class PromisesTest {
    private static final int UNKNOWN = -1, OUTSIDE = -2, STATE = -3, FULL = -4, NONE = -9;
    private static final int LOW = Integer.MIN_VALUE, HIGH = Integer.MAX_VALUE;

    public static void main(String[] args) {
        constants();
        newObject();
        part();
        runs();
        cut();
        thing();
        uses();
        size();
        setting();
        ofPart();
        plan();
        take();
        planned();
        misfit();
        cost();
        carried();
        best();
        bestSet();
        room();
        drop();
        place();
        stuck();
        order();
        reach();
        ofTime();
        time();
        many();
        Check.end("all promises hold");
    }

    private static void due(String what, int got, int want) {
        Check.due(what, got, want);
    }

    /**
     * Two PARTS (runs 2 and 3, at worst 4 and 3) and two THINGS (4 and 6 cells): THING 0 read twice, written once in
     * PART 0, read once in PART 1; THING 1 read 5 times in PART 1. SLOW 10, FAST 1, CARRY 2.
     * WORK out of the shelf: 2*3*10 = 60 (worst 120), 3*6*10 = 180.
     */
    private static FastShelf pair() {
        FastShelf x = new FastShelf();
        x.part(2, 4);
        x.part(3, 3);
        x.thing(4);
        x.thing(6);
        x.uses(0, 0, 2, 1);
        x.uses(0, 1, 1, 0);
        x.uses(1, 1, 5, 0);
        return x;
    }

    private static void constants() {
        due("UNKNOWN", FastShelf.UNKNOWN, UNKNOWN);
        due("OUTSIDE", FastShelf.OUTSIDE, OUTSIDE);
        due("STATE", FastShelf.STATE, STATE);
        due("FULL", FastShelf.FULL, FULL);
        due("NONE", FastShelf.NONE, NONE);
    }

    private static void newObject() {
        FastShelf x = new FastShelf();
        due("1 no parts", x.many(0), 0);
        due("1 no things", x.many(1), 0);
        due("1 room", x.setting(0, 0), 16);
        due("1 slow", x.setting(1, 20), 10);
        due("1 fast", x.setting(2, 0), 1);
        due("1 carry", x.setting(3, 0), 2);
        FastShelf other = new FastShelf();
        other.part(1, 1);
        due("1 objects are apart", x.many(0), 0);
    }

    private static void part() {
        FastShelf x = new FastShelf();
        int[][] bad = {{0, 5}, {-1, 5}, {LOW, 5}, {100, 100}, {HIGH, HIGH}, {5, 4}, {5, 100}, {5, HIGH}, {5, LOW}, {99, 98}};
        for (int[] b : bad) due("2 part(" + b[0] + ", " + b[1] + ")", x.part(b[0], b[1]), OUTSIDE);
        due("2 refused parts are none", x.many(0), 0);
        due("2 least", x.part(1, 1), 0);
        due("2 most", x.part(99, 99), 1);
        due("2 widest", x.part(1, 99), 2);
        for (int p = 3; p < 10; p++) due("2 part " + p, x.part(p, p), p);
        due("2 outside ahead of full", x.part(0, 0), OUTSIDE);
        due("2 full", x.part(1, 1), FULL);
        due("2 full changes nothing", x.many(0), 10);
        due("2 runs kept", x.ofPart(9, 0), 9);
        x.cut();
        due("2 free again", x.part(7, 8), 9);
        due("2 new runs", x.ofPart(9, 0), 7);
        due("2 new worst", x.ofPart(9, 1), 8);
        newPartIsEmpty();
    }

    private static void newPartIsEmpty() {
        FastShelf x = Samples.make(2, 3);
        x.plan(1, 1);
        x.uses(0, 1, 4, 5);
        x.cut();
        due("2 number again", x.part(1, 1), 1);
        due("2 the plan tells nothing for it", x.planned(1), 0);
        due("2 nothing read in it", x.ofPart(1, 10), 0);
        due("2 nothing written in it", x.ofPart(1, 20), 0);
        x.plan(1, 1);
        due("2 nothing returned behind it", x.carried(1), 0);
    }

    private static void runs() {
        FastShelf x = Samples.make(2, 4);
        due("3 runs", x.runs(1, 5, 9), 1);
        due("3 RUNS", x.ofPart(1, 0), 5);
        due("3 WORST", x.ofPart(1, 1), 9);
        due("3 other part stays", x.ofPart(0, 0), 1);
        due("3 equal", x.runs(0, 99, 99), 1);
        due("3 unknown", x.runs(2, 1, 1), UNKNOWN);
        due("3 unknown below", x.runs(-1, 1, 1), UNKNOWN);
        due("3 unknown far", x.runs(HIGH, 1, 1), UNKNOWN);
        due("3 unknown ahead of outside", x.runs(2, 0, 0), UNKNOWN);
        int[][] bad = {{0, 1}, {100, 100}, {5, 4}, {1, 100}, {LOW, HIGH}};
        for (int[] b : bad) due("3 runs(1, " + b[0] + ", " + b[1] + ")", x.runs(1, b[0], b[1]), OUTSIDE);
        due("3 refused changes nothing", x.ofPart(1, 0), 5);
        x.uses(0, 1, 1, 0);
        due("3 best ahead", x.best(0, 0, 0), 50);
        x.runs(1, 6, 9);
        due("3 best follows", x.best(0, 0, 0), 60);
        due("3 worst follows", x.best(0, 1, 0), 90);
    }

    private static void cut() {
        FastShelf x = new FastShelf();
        due("4 none", x.cut(), STATE);
        x.part(1, 1);
        x.part(2, 2);
        x.thing(1);
        x.uses(0, 1, 9, 0);
        due("4 cost ahead", x.best(0, 0, 0), 180);
        due("4 cut", x.cut(), 1);
        due("4 the last is gone", x.ofPart(1, 0), UNKNOWN);
        due("4 the first stays", x.ofPart(0, 0), 1);
        due("4 cost behind", x.best(0, 0, 0), 0);
        due("4 cut all", x.cut(), 0);
        due("4 none again", x.cut(), STATE);
        due("4 things stay", x.many(1), 1);
    }

    private static void thing() {
        FastShelf x = Samples.make(1);
        for (int bad : new int[] {0, -1, 21, LOW, HIGH}) due("5 thing(" + bad + ")", x.thing(bad), OUTSIDE);
        due("5 least", x.thing(1), 0);
        due("5 most", x.thing(20), 1);
        for (int t = 2; t < 5; t++) due("5 thing " + t, x.thing(t), t);
        due("5 outside ahead of full", x.thing(0), OUTSIDE);
        due("5 full", x.thing(1), FULL);
        due("5 five", x.many(1), 5);
        due("5 size kept", x.size(1, 3), 20);
        due("5 not read at first", x.ofPart(0, 14), 0);
        due("5 not written at first", x.ofPart(0, 24), 0);
    }

    private static void uses() {
        FastShelf x = Samples.make(2, 3, 4);
        due("6 first", x.uses(1, 0, 2, 3), 0);
        due("6 what both were", x.uses(1, 0, 9, 9), 5);
        due("6 most", x.uses(1, 0, 0, 0), 18);
        due("6 reads kept apart", x.uses(1, 1, 4, 0), 0);
        due("6 other thing", x.uses(0, 1, 0, 0), 0);
        due("6 unknown thing", x.uses(2, 0, 0, 0), UNKNOWN);
        due("6 unknown thing below", x.uses(-1, 0, 0, 0), UNKNOWN);
        due("6 unknown part", x.uses(0, 2, 0, 0), UNKNOWN);
        due("6 unknown part below", x.uses(0, LOW, 0, 0), UNKNOWN);
        due("6 unknown ahead of outside", x.uses(0, 2, 10, 0), UNKNOWN);
        int[][] bad = {{10, 0}, {-1, 0}, {0, 10}, {0, -1}, {HIGH, LOW}};
        for (int[] b : bad) due("6 uses(1, 1, " + b[0] + ", " + b[1] + ")", x.uses(1, 1, b[0], b[1]), OUTSIDE);
        due("6 refused changes nothing", x.ofPart(1, 11), 4);
        writtenNoMore();
    }

    private static void writtenNoMore() {
        FastShelf x = Samples.make(1, 3);
        x.plan(0, 1);
        x.uses(0, 0, 0, 1);
        due("6 written", x.carried(1), 1);
        x.uses(0, 0, 1, 0);
        due("6 written no more", x.carried(1), 0);
    }

    private static void size() {
        FastShelf x = Samples.make(1, 3, 4);
        due("7 what it was", x.size(0, 20), 3);
        due("7 what it was then", x.size(0, 1), 20);
        due("7 other", x.size(1, 5), 4);
        due("7 unknown", x.size(2, 5), UNKNOWN);
        due("7 unknown below", x.size(-1, 5), UNKNOWN);
        due("7 unknown ahead of outside", x.size(2, 0), UNKNOWN);
        for (int bad : new int[] {0, 21, -1, LOW, HIGH}) due("7 size(1, " + bad + ")", x.size(1, bad), OUTSIDE);
        due("7 refused changes nothing", x.size(1, 6), 5);
        x.plan(0, 2);
        due("7 cost by the size", x.cost(0), 12);
        x.uses(1, 0, 9, 0);
        due("7 least room", x.room(0, 21), 6);
        x.size(1, 2);
        due("7 least room follows", x.room(0, 21), 2);
    }

    private static void setting() {
        FastShelf x = new FastShelf();
        int[][] bad = {{-1, 1}, {4, 1}, {LOW, 1}, {HIGH, 1}, {0, -1}, {0, 61}, {1, 0}, {1, 21}, {2, -1}, {2, 11}, {3, -1}, {3, 21}};
        for (int[] b : bad) due("8 setting(" + b[0] + ", " + b[1] + ")", x.setting(b[0], b[1]), OUTSIDE);
        due("8 room most", x.setting(0, 60), 16);
        due("8 room least", x.setting(0, 0), 60);
        due("8 room was", x.setting(0, 5), 0);
        due("8 slow down to fast", x.setting(1, 1), 10);
        due("8 slow is fast", x.setting(2, 1), 1);
        due("8 fast more than slow", x.setting(2, 2), OUTSIDE);
        due("8 slow most", x.setting(1, 20), 1);
        due("8 fast up to slow", x.setting(2, 20), 1);
        due("8 slow less than fast", x.setting(1, 19), OUTSIDE);
        due("8 slow stays", x.setting(1, 20), 20);
        due("8 fast least", x.setting(2, 0), 20);
        due("8 slow least without fast", x.setting(1, 0), OUTSIDE);
        due("8 slow one", x.setting(1, 1), 20);
        due("8 carry most", x.setting(3, 20), 2);
        due("8 carry least", x.setting(3, 0), 20);
        costsFollowSettings();
    }

    private static void costsFollowSettings() {
        FastShelf x = pair();
        due("8 best ahead", x.best(0, 0, 0), 240);
        x.setting(1, 20);
        due("8 best by slow", x.best(0, 0, 0), 480);
        due("8 best by fast ahead", x.best(0, 0, 60), 52);
        x.setting(2, 0);
        due("8 best by fast", x.best(0, 0, 60), 28);
        x.setting(3, 0);
        due("8 best by carry", x.best(0, 0, 60), 0);
    }

    private static void ofPart() {
        FastShelf x = Samples.make(1, 3, 4);
        x.runs(0, 7, 8);
        x.uses(0, 0, 1, 2);
        x.uses(1, 0, 3, 4);
        int[][] due = {{0, 7}, {1, 8}, {10, 1}, {11, 3}, {20, 2}, {21, 4}, {12, OUTSIDE}, {22, OUTSIDE}, {2, OUTSIDE},
            {9, OUTSIDE}, {19, OUTSIDE}, {30, OUTSIDE}, {-1, OUTSIDE}, {LOW, OUTSIDE}, {HIGH, OUTSIDE}};
        for (int[] d : due) due("9 ofPart(0, " + d[0] + ")", x.ofPart(0, d[0]), d[1]);
        due("9 unknown", x.ofPart(1, 0), UNKNOWN);
        due("9 unknown below", x.ofPart(-1, 0), UNKNOWN);
        due("9 unknown ahead of outside", x.ofPart(1, 99), UNKNOWN);
    }

    private static void plan() {
        FastShelf x = Samples.make(2, 3, 4);
        due("10 nothing at first", x.plan(0, 3), 0);
        due("10 what it told", x.plan(0, 1), 3);
        due("10 other part", x.plan(1, 2), 0);
        due("10 unknown", x.plan(2, 0), UNKNOWN);
        due("10 unknown below", x.plan(-1, 0), UNKNOWN);
        due("10 unknown ahead of outside", x.plan(2, 4), UNKNOWN);
        for (int bad : new int[] {4, 5, -1, LOW, HIGH}) due("10 plan(0, " + bad + ")", x.plan(0, bad), OUTSIDE);
        due("10 refused changes nothing", x.planned(0), 1);
        x.thing(5);
        due("10 a new thing", x.plan(0, 4), 1);
        FastShelf bare = Samples.make(1);
        due("10 no things, empty set", bare.plan(0, 0), 0);
        due("10 no things, a set", bare.plan(0, 1), OUTSIDE);
    }

    private static void take() {
        FastShelf none = new FastShelf();
        due("11 no parts", none.take(0, 0), STATE);
        due("11 outside ahead of state", none.take(2, 0), OUTSIDE);
        FastShelf x = pair();
        for (int bad : new int[] {-1, 2, LOW, HIGH}) {
            due("11 how " + bad, x.take(bad, 0), OUTSIDE);
            due("11 kind " + bad, x.take(0, bad), OUTSIDE);
        }
        due("11 refused changes nothing", x.planned(0), 0);
        // THING 0 in both PARTS, THING 1 in PART 1: 6 + 18 work, 8 + 12 fetched, 8 returned.
        due("11 best", x.take(0, 0), 52);
        due("11 best part 0", x.planned(0), 1);
        due("11 best part 1", x.planned(1), 3);
        due("11 its cost", x.cost(0), 52);
        // The same set all along costs as much, THING 1 being fetched sooner.
        due("11 still", x.take(1, 0), 52);
        due("11 still part 0", x.planned(0), 3);
        due("11 still part 1", x.planned(1), 3);
        due("11 best at worst", x.take(0, 1), 58);
        x.setting(0, 9);
        // Only one fits: THING 0 alone: 6 + 3 + 150 work, 16 carried; changed for THING 1: 6 + 30 + 15, 16 + 12.
        due("11 changing", x.take(0, 0), 79);
        due("11 changing part 0", x.planned(0), 1);
        due("11 changing part 1", x.planned(1), 2);
        // THING 1 alone: 60 + 30 + 15 work, 12 carried.
        due("11 still of one", x.take(1, 0), 117);
        due("11 still of one part 0", x.planned(0), 2);
        firstOfEqual();
    }

    private static void firstOfEqual() {
        FastShelf x = Samples.make(3, 2, 2);
        x.setting(3, 0);
        x.setting(0, 2);
        x.uses(0, 1, 3, 0);
        x.uses(1, 1, 3, 0);
        due("11 equal", x.take(0, 0), 33);
        due("11 equal, nothing is less than something", x.planned(0), 0);
        due("11 equal, the lesser set", x.planned(1), 1);
        due("11 equal, behind", x.planned(2), 0);
        due("11 equal still", x.take(1, 0), 33);
        due("11 equal still, the lesser set", x.planned(2), 1);
        x.setting(2, 10);
        due("11 no gain", x.take(1, 1), 120);
        due("11 no gain, nothing in", x.planned(0), 0);
    }

    private static void planned() {
        FastShelf x = Samples.make(2, 3);
        due("12 nothing", x.planned(1), 0);
        x.plan(1, 1);
        due("12 told", x.planned(1), 1);
        due("12 unknown", x.planned(2), UNKNOWN);
        due("12 unknown below", x.planned(-1), UNKNOWN);
        due("12 unknown far", x.planned(LOW), UNKNOWN);
    }

    private static void misfit() {
        due("13 no parts", new FastShelf().misfit(), NONE);
        FastShelf x = Samples.make(3, 10, 6, 1);
        Samples.tell(x, 3, 7, 7);
        due("13 first of two", x.misfit(), 1);
        Samples.tell(x, 3, 3, 7);
        due("13 last", x.misfit(), 2);
        Samples.tell(x, 3, 3, 3);
        due("13 just fits", x.misfit(), NONE);
        x.setting(0, 15);
        due("13 less room", x.misfit(), 0);
        x.size(1, 5);
        due("13 smaller", x.misfit(), NONE);
        x.setting(0, 0);
        Samples.tell(x, 0, 0, 0);
        due("13 nothing fits in nothing", x.misfit(), NONE);
    }

    private static void cost() {
        due("14 no parts", new FastShelf().cost(0), 0);
        FastShelf x = pair();
        for (int bad : new int[] {-1, 2, LOW, HIGH}) due("14 kind " + bad, x.cost(bad), OUTSIDE);
        due("14 all slow", x.cost(0), 240);
        due("14 all slow at worst", x.cost(1), 300);
        Samples.tell(x, 1, 0);
        // 6 + 180 work, 8 fetched, 8 returned.
        due("14 one", x.cost(0), 202);
        due("14 one at worst", x.cost(1), 208);
        Samples.tell(x, 0, 1);
        // 60 + 3 + 150 work, 8 fetched; not written in that STAY.
        due("14 not written", x.cost(0), 221);
        Samples.tell(x, 1, 1);
        due("14 one stay", x.cost(0), 175);
        Samples.tell(x, 3, 3);
        due("14 both", x.cost(0), 52);
        x.setting(0, 0);
        due("14 a plan that does not fit", x.cost(0), 52);
        x.setting(3, 0);
        due("14 nothing to carry", x.cost(0), 24);
    }

    private static void carried() {
        FastShelf none = new FastShelf();
        due("15 none fetched", none.carried(0), 0);
        due("15 none returned", none.carried(1), 0);
        due("15 no thing", none.carried(10), OUTSIDE);
        FastShelf x = Samples.make(5, 1, 1);
        x.uses(0, 0, 0, 1);
        x.uses(0, 3, 9, 0);
        x.uses(1, 2, 0, 1);
        Samples.tell(x, 1, 1, 2, 3, 2);
        // THING 0: PARTS 0, 1 (written), PART 3 (read); THING 1: PARTS 2 to 4 (written).
        int[][] due = {{0, 3}, {1, 2}, {10, 2}, {11, 1}, {20, 1}, {21, 1}, {12, OUTSIDE}, {22, OUTSIDE}, {2, OUTSIDE},
            {9, OUTSIDE}, {30, OUTSIDE}, {-1, OUTSIDE}, {LOW, OUTSIDE}, {HIGH, OUTSIDE}};
        for (int[] d : due) due("15 carried(" + d[0] + ")", x.carried(d[0]), d[1]);
        x.uses(0, 0, 0, 0);
        x.uses(0, 2, 0, 5);
        due("15 written while out", x.carried(20), 0);
        x.uses(0, 1, 0, 1);
        due("15 written in the last part of a stay", x.carried(20), 1);
        Samples.tell(x, 1, 1, 1, 1, 1);
        due("15 one stay", x.carried(10), 1);
        due("15 returned once", x.carried(20), 1);
        due("15 sum", x.carried(1), 1);
    }

    private static void best() {
        FastShelf none = new FastShelf();
        due("16 no parts", none.best(0, 0, 60), 0);
        due("16 no parts still", none.best(1, 1, 0), 0);
        none.thing(3);
        due("16 no parts still with a thing", none.best(1, 0, 60), 0);
        FastShelf x = pair();
        int[][] bad = {{-1, 0, 0}, {2, 0, 0}, {0, -1, 0}, {0, 2, 0}, {0, 0, -1}, {0, 0, 61}, {1, 1, LOW}, {1, 1, HIGH}};
        for (int[] b : bad) due("16 best(" + b[0] + ", " + b[1] + ", " + b[2] + ")", x.best(b[0], b[1], b[2]), OUTSIDE);
        int[][] due = {{0, 240, 240}, {3, 240, 240}, {4, 175, 175}, {5, 175, 175}, {6, 79, 117}, {9, 79, 117}, {10, 52, 52}, {60, 52, 52}};
        for (int[] d : due) {
            due("16 best, room " + d[0], x.best(0, 0, d[0]), d[1]);
            due("16 still, room " + d[0], x.best(1, 0, d[0]), d[2]);
        }
        due("16 best at worst", x.best(0, 1, 9), 85);
        due("16 still at worst", x.best(1, 1, 9), 177);
        due("16 the plan stays", x.planned(1), 0);
        due("16 room stays", x.setting(0, 16), 16);
    }

    private static void bestSet() {
        FastShelf x = pair();
        int[][] due = {{16, 1, 3, 3, 3}, {9, 1, 2, 2, 2}, {5, 1, 1, 1, 1}, {3, 0, 0, 0, 0}, {10, 1, 3, 3, 3}};
        for (int[] d : due) {
            x.setting(0, d[0]);
            due("17 best part 0, room " + d[0], x.bestSet(0, 0, 0), d[1]);
            due("17 best part 1, room " + d[0], x.bestSet(1, 0, 0), d[2]);
            due("17 still part 0, room " + d[0], x.bestSet(0, 1, 0), d[3]);
            due("17 still part 1, room " + d[0], x.bestSet(1, 1, 0), d[4]);
        }
        due("17 the plan stays", x.planned(0), 0);
        due("17 unknown", x.bestSet(2, 0, 0), UNKNOWN);
        due("17 unknown below", x.bestSet(-1, 0, 0), UNKNOWN);
        due("17 unknown ahead of outside", x.bestSet(2, 2, 2), UNKNOWN);
        for (int bad : new int[] {-1, 2, LOW, HIGH}) {
            due("17 how " + bad, x.bestSet(0, bad, 0), OUTSIDE);
            due("17 kind " + bad, x.bestSet(0, 0, bad), OUTSIDE);
        }
        // By the mean 4*9 = 36 saved is less than 40 carried, at worst 8*9 = 72 is more.
        FastShelf kinds = Samples.make(1, 20);
        kinds.runs(0, 4, 8);
        kinds.uses(0, 0, 1, 0);
        kinds.setting(0, 20);
        due("17 mean", kinds.bestSet(0, 0, 0), 0);
        due("17 worst", kinds.bestSet(0, 0, 1), 1);
        due("17 still mean", kinds.bestSet(0, 1, 0), 0);
        due("17 still worst", kinds.bestSet(0, 1, 1), 1);
        for (int set = 0; set < 32; set++) {
            bestIsEachSet(set, 0);
            bestIsEachSet(set, 1);
        }
    }

    /** What is used first and last is kept in between, as being fetched again would cost more; no other is fetched. */
    private static void bestIsEachSet(int set, int writes) {
        FastShelf x = Samples.make(4, 1, 2, 3, 4, 5);
        for (int t = 0; t < 5; t++) {
            int reads = (set >> t & 1) * 9;
            x.uses(t, 1, reads, reads == 0 ? 0 : writes);
            x.uses(t, 3, reads, 0);
        }
        due("17 ahead of set " + set, x.bestSet(0, 0, 0), 0);
        for (int p = 1; p < 4; p++) due("17 set " + set + " part " + p, x.bestSet(p, 0, 0), set);
    }

    private static void room() {
        FastShelf none = new FastShelf();
        due("18 no parts", none.room(0, 0), 0);
        FastShelf x = pair();
        int[][] due = {{9999999, 0}, {240, 0}, {239, 4}, {175, 4}, {174, 6}, {79, 6}, {78, 10}, {52, 10}, {51, NONE}, {0, NONE}};
        for (int[] d : due) due("18 room(0, " + d[0] + ")", x.room(0, d[0]), d[1]);
        due("18 at worst", x.room(1, 85), 6);
        due("18 at worst, less", x.room(1, 84), 10);
        for (int bad : new int[] {-1, 10000000, LOW, HIGH}) due("18 v " + bad, x.room(0, bad), OUTSIDE);
        for (int bad : new int[] {-1, 2, LOW, HIGH}) due("18 kind " + bad, x.room(bad, 0), OUTSIDE);
        FastShelf wide = Samples.make(1, 20, 20, 20, 20);
        for (int t = 0; t < 4; t++) wide.uses(t, 0, 9, 0);
        wide.setting(3, 0);
        // No more than three of them fit in 60 cells: 3*9 + 90.
        due("18 all of the shelf", wide.room(0, 117), 60);
        due("18 not with all of it", wide.room(0, 116), NONE);
    }

    private static void drop() {
        due("19 no parts", new FastShelf().drop(0, 0), NONE);
        FastShelf x = pair();
        due("19 first", x.drop(0, 0), 4);
        due("19 second", x.drop(0, 1), 6);
        due("19 third", x.drop(0, 2), 10);
        due("19 fewer", x.drop(0, 3), NONE);
        due("19 far fewer", x.drop(0, 59), NONE);
        due("19 at worst", x.drop(1, 2), 10);
        for (int bad : new int[] {-1, 60, LOW, HIGH}) due("19 k " + bad, x.drop(0, bad), OUTSIDE);
        for (int bad : new int[] {-1, 2, LOW, HIGH}) due("19 kind " + bad, x.drop(bad, 0), OUTSIDE);
        FastShelf wide = Samples.make(1, 20, 20, 20, 20);
        for (int t = 0; t < 4; t++) wide.uses(t, 0, 9, 0);
        due("19 wide", wide.drop(0, 2), 60);
        due("19 beyond the shelf", wide.drop(0, 3), NONE);
        FastShelf all = Samples.make(1, 1, 2, 4, 8, 16);
        for (int t = 0; t < 5; t++) all.uses(t, 0, 9, 0);
        all.setting(3, 0);
        // Each counts the same, so only the five ways to take one more drop it: 1, 3, 7, 15, 31.
        for (int k = 0; k < 5; k++) due("19 one more " + k, all.drop(0, k), (2 << k) - 1);
        due("19 no more", all.drop(0, 5), NONE);
    }

    private static void place() {
        FastShelf x = Samples.make(3, 4, 6, 3);
        x.setting(0, 10);
        Samples.tell(x, 3, 2, 6);
        int[][] due = {
            // t, p, order, place: the least free place, kept while the STAY lasts
            {0, 0, 0, 0}, {1, 0, 0, 4}, {2, 0, 0, NONE}, {0, 1, 0, NONE}, {1, 1, 0, 4}, {1, 2, 0, 4}, {2, 2, 0, 0},
            {0, 0, 1, 0}, {1, 0, 1, 4},
            // 1 0 2: THING 1 first
            {1, 0, 2, 0}, {0, 0, 2, 6}, {1, 2, 2, 0}, {2, 2, 2, 6}, {1, 0, 3, 0}, {0, 0, 3, 6},
            // 2 0 1 and 2 1 0
            {0, 0, 4, 0}, {1, 0, 4, 4}, {1, 0, 5, 0}, {0, 0, 5, 6}};
        for (int[] d : due) {
            due("20 place(" + d[0] + ", " + d[1] + ", " + d[2] + ")", x.place(d[0], d[1], d[2]), d[3]);
        }
        due("20 unknown thing", x.place(3, 0, 0), UNKNOWN);
        due("20 unknown thing below", x.place(-1, 0, 0), UNKNOWN);
        due("20 unknown part", x.place(0, 3, 0), UNKNOWN);
        due("20 unknown part below", x.place(0, LOW, 0), UNKNOWN);
        due("20 unknown ahead of outside", x.place(0, 3, 6), UNKNOWN);
        for (int bad : new int[] {6, -1, LOW, HIGH}) due("20 order " + bad, x.place(0, 0, bad), OUTSIDE);
        x.setting(0, 9);
        due("20 stuck at that part", x.place(0, 0, 0), NONE);
        due("20 stuck ahead of it", x.place(1, 1, 0), NONE);
        Samples.tell(x, 1, 3, 2);
        due("20 ahead of where it is stuck", x.place(0, 0, 0), 0);
        due("20 there already, but stuck", x.place(0, 1, 0), NONE);
        comesAgain();
    }

    private static void comesAgain() {
        FastShelf x = Samples.make(3, 4, 6);
        Samples.tell(x, 3, 2, 3);
        due("20 comes again to the same place", x.place(0, 2, 0), 0);
        Samples.tell(x, 3, 1, 3);
        x.setting(0, 60);
        due("20 stays", x.place(0, 2, 1), 6);
        due("20 comes again ahead of it", x.place(1, 2, 1), 0);
        Samples.tell(x, 1, 2, 3);
        // THING 0 goes as THING 1 comes: its cells are free again.
        due("20 the gone make way", x.place(1, 1, 0), 0);
        due("20 behind it", x.place(0, 2, 0), 6);
    }

    private static void stuck() {
        FastShelf none = new FastShelf();
        due("21 nothing", none.stuck(0), NONE);
        due("21 one order without things", none.stuck(1), OUTSIDE);
        FastShelf x = Samples.make(3, 4, 6, 5);
        Samples.tell(x, 3, 2, 6);
        x.setting(0, 12);
        // By 0 1 2 THING 1 lies in 4 .. 9: neither 0 .. 3 nor 10 .. 11 is enough for THING 2.
        due("21 fits, but stuck", x.stuck(0), 2);
        due("21 misfit is not stuck", x.misfit(), NONE);
        due("21 another order", x.stuck(2), NONE);
        x.setting(0, 11);
        due("21 just enough", x.stuck(2), NONE);
        x.setting(0, 10);
        due("21 too little", x.stuck(2), 2);
        x.setting(0, 9);
        due("21 at the first", x.stuck(2), 0);
        for (int bad : new int[] {6, -1, LOW, HIGH}) due("21 order " + bad, x.stuck(bad), OUTSIDE);
        FastShelf all = Samples.make(1, 12, 12, 12, 12, 12);
        all.plan(0, 31);
        all.setting(0, 60);
        due("21 all of the shelf", all.stuck(119), NONE);
        due("21 no order 120", all.stuck(120), OUTSIDE);
        all.setting(0, 59);
        due("21 a cell fewer", all.stuck(119), 0);
    }

    private static void order() {
        due("22 nothing", new FastShelf().order(), 0);
        FastShelf x = Samples.make(3, 4, 6, 5);
        Samples.tell(x, 3, 2, 6);
        x.setting(0, 20);
        due("22 first", x.order(), 0);
        x.setting(0, 12);
        due("22 the first that is not stuck", x.order(), 2);
        x.setting(0, 10);
        due("22 none", x.order(), NONE);
    }

    private static void reach() {
        FastShelf none = new FastShelf();
        due("23 nothing", none.reach(0), 0);
        due("23 no order", none.reach(1), OUTSIDE);
        FastShelf x = Samples.make(3, 4, 6, 5);
        x.setting(0, 20);
        due("23 nothing in", x.reach(0), 0);
        Samples.tell(x, 3, 2, 6);
        due("23 behind it", x.reach(0), 15);
        due("23 beside it", x.reach(2), 11);
        Samples.tell(x, 6, 1, 0);
        due("23 the most is ahead", x.reach(0), 11);
        Samples.tell(x, 3, 2, 6);
        x.setting(0, 12);
        due("23 stuck", x.reach(0), NONE);
        due("23 another order", x.reach(2), 11);
        for (int bad : new int[] {6, -1, LOW, HIGH}) due("23 order " + bad, x.reach(bad), OUTSIDE);
    }

    private static void ofTime() {
        FastShelf x = pair();
        Samples.tell(x, 1, 2);
        int[][] due = {
            // p, kind, what: WORK 2*3*1, LOAD 2*4, STALL all of it
            {0, 0, 0, 6}, {0, 0, 1, 8}, {0, 0, 2, 8}, {0, 1, 0, 12}, {0, 1, 1, 8}, {0, 1, 2, 8},
            // WORK 3*10 + 3*5, LOAD 2*6 fetched and 2*4 returned, STALL by 6, by 12 at worst
            {1, 0, 0, 45}, {1, 0, 1, 20}, {1, 0, 2, 14}, {1, 1, 0, 45}, {1, 1, 1, 20}, {1, 1, 2, 8}};
        for (int[] d : due) {
            due("24 ofTime(" + d[0] + ", " + d[1] + ", " + d[2] + ")", x.ofTime(d[0], d[1], d[2]), d[3]);
        }
        due("24 unknown", x.ofTime(2, 0, 0), UNKNOWN);
        due("24 unknown below", x.ofTime(-1, 0, 0), UNKNOWN);
        due("24 unknown ahead of outside", x.ofTime(2, 2, 3), UNKNOWN);
        for (int bad : new int[] {-1, 2, LOW, HIGH}) due("24 kind " + bad, x.ofTime(0, bad, 0), OUTSIDE);
        for (int bad : new int[] {-1, 3, LOW, HIGH}) due("24 what " + bad, x.ofTime(0, 0, bad), OUTSIDE);
        Samples.tell(x, 0, 2);
        due("24 hidden", x.ofTime(1, 0, 2), 0);
    }

    private static void time() {
        due("25 no parts", new FastShelf().time(0), 0);
        FastShelf x = pair();
        for (int bad : new int[] {-1, 2, LOW, HIGH}) due("25 kind " + bad, x.time(bad), OUTSIDE);
        due("25 all slow", x.time(0), 240);
        Samples.tell(x, 1, 2);
        due("25 mean", x.time(0), 6 + 8 + 45 + 14);
        due("25 worst", x.time(1), 12 + 8 + 45 + 8);
        Samples.tell(x, 1, 1);
        // What is RETURNED behind the last PART is never hidden.
        due("25 returned behind the last", x.time(0), 6 + 8 + 153 + 0 + 8);
        x.cut();
        due("25 returned behind the only", x.time(0), 6 + 8 + 8);
    }

    private static void many() {
        FastShelf x = new FastShelf();
        due("26 orders without things", x.many(3), 1);
        due("26 stays without parts", x.many(2), 0);
        for (int bad : new int[] {-1, 4, LOW, HIGH}) due("26 what " + bad, x.many(bad), OUTSIDE);
        int[] orders = {1, 2, 6, 24, 120};
        for (int t = 0; t < 5; t++) {
            x.thing(1);
            due("26 things " + t, x.many(1), t + 1);
            due("26 orders " + t, x.many(3), orders[t]);
        }
        for (int p = 0; p < 4; p++) x.part(1, 1);
        due("26 parts", x.many(0), 4);
        Samples.tell(x, 1, 3, 2, 1);
        due("26 stays", x.many(2), 3);
        x.cut();
        due("26 stays behind a cut", x.many(2), 2);
    }
}
