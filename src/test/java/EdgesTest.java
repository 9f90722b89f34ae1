/**
 * Promise by promise: what each call answers without PARTS, without THINGS, with all of them, at the first and the last
 * of what it may be given, and for a PART that was cut and has come again.
 */
public final class EdgesTest {
    private static final int UNKNOWN = -1, OUTSIDE = -2, STATE = -3, FULL = -4, NONE = -9;

    public static void main(String[] args) {
        nothingThere();
        thingsWithoutParts();
        partsWithoutThings();
        allThere();
        allOutside();
        partsCome();
        comesAgainEmpty();
        comesAgainInWhatWasFound();
        comesAgainOnTheShelf();
        cutEndsAStay();
        cutDownToNothing();
        mostUsesByWhat();
        taken();
        misfitAtEachPart();
        carriedByWhat();
        bestAtTheEndsOfRoom();
        bestSetIsByRoom();
        roomByCost();
        roomAtTheEnds();
        mostDrops();
        firstAndLastDrop();
        orderAtTheEnds();
        reachIsTheMost();
        manyByWhat();
        objectsAreApart();
        Check.end("the promises hold at their edges");
    }

    private static void due(String what, int got, int want) {
        Check.due(what, got, want);
    }

    /** Each row: the call, what is due, what is given. */
    private static void all(String when, FastShelf x, int[][] rows) {
        for (int[] row : rows) {
            int[] given = new int[row.length - 2];
            System.arraycopy(row, 2, given, 0, given.length);
            due(when + ": " + Calls.text(row[0], given), Calls.ask(x, row[0], given), row[1]);
        }
    }

    private static void nothingThere() {
        FastShelf x = new FastShelf();
        int[][] rows = {
            {Calls.RUNS, UNKNOWN, 0, 1, 1}, {Calls.CUT, STATE}, {Calls.USES, UNKNOWN, 0, 0, 0, 0},
            {Calls.SIZE, UNKNOWN, 0, 1}, {Calls.OF_PART, UNKNOWN, 0, 0}, {Calls.PLAN, UNKNOWN, 0, 0},
            {Calls.TAKE, STATE, 0, 0}, {Calls.TAKE, STATE, 1, 1}, {Calls.PLANNED, UNKNOWN, 0}, {Calls.MISFIT, NONE},
            {Calls.COST, 0, 0}, {Calls.COST, 0, 1}, {Calls.CARRIED, 0, 0}, {Calls.CARRIED, 0, 1},
            {Calls.CARRIED, OUTSIDE, 10}, {Calls.CARRIED, OUTSIDE, 20}, {Calls.BEST, 0, 0, 0, 0},
            {Calls.BEST, 0, 1, 1, 60}, {Calls.BEST_SET, UNKNOWN, 0, 0, 0}, {Calls.ROOM, 0, 0, 0},
            {Calls.ROOM, 0, 1, 9999999}, {Calls.DROP, NONE, 0, 0}, {Calls.DROP, NONE, 1, 59},
            {Calls.PLACE, UNKNOWN, 0, 0, 0}, {Calls.STUCK, NONE, 0}, {Calls.STUCK, OUTSIDE, 1}, {Calls.ORDER, 0},
            {Calls.REACH, 0, 0}, {Calls.REACH, OUTSIDE, 1}, {Calls.OF_TIME, UNKNOWN, 0, 0, 0}, {Calls.TIME, 0, 0},
            {Calls.TIME, 0, 1}, {Calls.MANY, 0, 0}, {Calls.MANY, 0, 1}, {Calls.MANY, 0, 2}, {Calls.MANY, 1, 3}};
        all("nothing there", x, rows);
        x.setting(0, 0);
        all("nothing there, ROOM 0", x, rows);
    }

    private static void thingsWithoutParts() {
        FastShelf x = Samples.make(0, 20, 20, 20, 20, 20);
        int[][] rows = {
            {Calls.CUT, STATE}, {Calls.USES, UNKNOWN, 4, 0, 0, 0}, {Calls.SIZE, 20, 4, 20}, {Calls.PLAN, UNKNOWN, 0, 0},
            {Calls.TAKE, STATE, 0, 0}, {Calls.MISFIT, NONE}, {Calls.COST, 0, 0}, {Calls.CARRIED, 0, 0},
            {Calls.CARRIED, 0, 1}, {Calls.CARRIED, 0, 10}, {Calls.CARRIED, 0, 14}, {Calls.CARRIED, OUTSIDE, 15},
            {Calls.CARRIED, 0, 20}, {Calls.CARRIED, 0, 24}, {Calls.CARRIED, OUTSIDE, 25}, {Calls.BEST, 0, 0, 0, 60},
            {Calls.BEST, 0, 1, 0, 60}, {Calls.BEST, 0, 1, 1, 0}, {Calls.ROOM, 0, 0, 0}, {Calls.DROP, NONE, 0, 0},
            {Calls.PLACE, UNKNOWN, 4, 0, 0}, {Calls.STUCK, NONE, 0}, {Calls.STUCK, NONE, 119},
            {Calls.STUCK, OUTSIDE, 120}, {Calls.ORDER, 0}, {Calls.REACH, 0, 119}, {Calls.REACH, OUTSIDE, 120},
            {Calls.TIME, 0, 1}, {Calls.MANY, 0, 0}, {Calls.MANY, 5, 1}, {Calls.MANY, 0, 2}, {Calls.MANY, 120, 3}};
        all("no PARTS", x, rows);
    }

    private static void partsWithoutThings() {
        FastShelf x = Samples.make(10);
        int[][] rows = {
            {Calls.RUNS, 1, 9, 99, 99}, {Calls.USES, UNKNOWN, 0, 9, 0, 0}, {Calls.SIZE, UNKNOWN, 0, 1},
            {Calls.OF_PART, 99, 9, 0}, {Calls.OF_PART, OUTSIDE, 9, 10}, {Calls.OF_PART, OUTSIDE, 9, 20},
            {Calls.PLAN, 0, 9, 0}, {Calls.PLAN, OUTSIDE, 9, 1}, {Calls.TAKE, 0, 0, 0}, {Calls.TAKE, 0, 1, 1},
            {Calls.PLANNED, 0, 9}, {Calls.MISFIT, NONE}, {Calls.COST, 0, 1}, {Calls.CARRIED, 0, 0},
            {Calls.CARRIED, 0, 1}, {Calls.CARRIED, OUTSIDE, 10}, {Calls.CARRIED, OUTSIDE, 20}, {Calls.BEST, 0, 0, 0, 60},
            {Calls.BEST, 0, 1, 1, 60}, {Calls.BEST_SET, 0, 9, 0, 0}, {Calls.BEST_SET, 0, 9, 1, 1}, {Calls.ROOM, 0, 0, 0},
            {Calls.DROP, NONE, 0, 0}, {Calls.PLACE, UNKNOWN, 0, 9, 0}, {Calls.STUCK, NONE, 0},
            {Calls.STUCK, OUTSIDE, 1}, {Calls.ORDER, 0}, {Calls.REACH, 0, 0}, {Calls.REACH, OUTSIDE, 1},
            {Calls.OF_TIME, 0, 9, 1, 0}, {Calls.OF_TIME, 0, 9, 1, 1}, {Calls.OF_TIME, 0, 9, 1, 2}, {Calls.TIME, 0, 1},
            {Calls.MANY, 10, 0}, {Calls.MANY, 0, 1}, {Calls.MANY, 0, 2}, {Calls.MANY, 1, 3}, {Calls.CUT, 9}};
        all("no THINGS", x, rows);
    }

    /** Ten PARTS and five THINGS of 12 cells, THING 4 read once in each PART, written in PART 9; ROOM 60. */
    private static FastShelf whole() {
        FastShelf x = Samples.make(10, 12, 12, 12, 12, 12);
        for (int p = 0; p < 10; p++) x.uses(4, p, 1, p == 9 ? 9 : 0);
        x.setting(0, 60);
        for (int p = 0; p < 10; p++) x.plan(p, 31);
        return x;
    }

    private static void allThere() {
        // WORK in: 9 and 10, at worst twice; each FETCHED for 24, THING 4 RETURNED for 24.
        int[][] rows = {
            {Calls.PART, FULL, 1, 1}, {Calls.THING, FULL, 1}, {Calls.OF_PART, 1, 9, 0}, {Calls.OF_PART, 2, 9, 1},
            {Calls.OF_PART, 1, 9, 14}, {Calls.OF_PART, 9, 9, 24}, {Calls.PLANNED, 31, 9},
            {Calls.PLANNED, UNKNOWN, 10}, {Calls.MISFIT, NONE}, {Calls.COST, 19 + 144, 0}, {Calls.COST, 38 + 144, 1},
            {Calls.CARRIED, 5, 0}, {Calls.CARRIED, 1, 1}, {Calls.CARRIED, 1, 14}, {Calls.CARRIED, 1, 24},
            {Calls.CARRIED, 0, 23}, {Calls.BEST, 190, 0, 0, 11}, {Calls.BEST, 19 + 48, 0, 0, 12},
            {Calls.BEST, 19 + 48, 1, 0, 60}, {Calls.BEST_SET, 16, 0, 0, 0}, {Calls.BEST_SET, 16, 9, 0, 1},
            {Calls.BEST_SET, 16, 9, 1, 0}, {Calls.ROOM, 12, 0, 67}, {Calls.ROOM, NONE, 0, 66}, {Calls.ROOM, 0, 0, 190},
            {Calls.ROOM, 12, 0, 189}, {Calls.DROP, 12, 0, 0}, {Calls.DROP, NONE, 0, 1}, {Calls.PLACE, 48, 4, 9, 0},
            {Calls.PLACE, 0, 4, 9, 119}, {Calls.PLACE, OUTSIDE, 4, 9, 120}, {Calls.PLACE, UNKNOWN, 5, 9, 0},
            {Calls.PLACE, UNKNOWN, 4, 10, 0}, {Calls.STUCK, NONE, 119}, {Calls.STUCK, OUTSIDE, 120}, {Calls.ORDER, 0},
            {Calls.REACH, 60, 119}, {Calls.OF_TIME, 1, 0, 0, 0}, {Calls.OF_TIME, 10, 9, 0, 0},
            {Calls.OF_TIME, 20, 9, 1, 0}, {Calls.OF_TIME, 120, 0, 1, 1}, {Calls.OF_TIME, 120, 0, 1, 2},
            {Calls.OF_TIME, 0, 9, 0, 1}, {Calls.OF_TIME, UNKNOWN, 10, 0, 0}, {Calls.TIME, 19 + 120 + 24, 0},
            {Calls.TIME, 38 + 120 + 24, 1}, {Calls.MANY, 10, 0}, {Calls.MANY, 5, 1}, {Calls.MANY, 5, 2},
            {Calls.MANY, 120, 3}, {Calls.USES, 10, 4, 9, 0, 0}, {Calls.SIZE, 12, 4, 1}, {Calls.PLAN, 31, 9, 0},
            {Calls.CUT, 9}};
        all("all there", whole(), rows);
        FastShelf x = whole();
        due("BEST is taken", x.take(0, 0), 67);
        for (int p = 0; p < 10; p++) due("in PART " + p, x.planned(p), 16);
    }

    /** Each number in its turn is just beyond; the least and the greatest int are so everywhere. */
    private static void allOutside() {
        int low = Integer.MIN_VALUE;
        int high = Integer.MAX_VALUE;
        int[][] rows = {
            {Calls.PART, OUTSIDE, low, low}, {Calls.PART, OUTSIDE, high, high}, {Calls.PART, OUTSIDE, low, high},
            {Calls.RUNS, UNKNOWN, low, 1, 1}, {Calls.RUNS, UNKNOWN, high, 1, 1}, {Calls.RUNS, OUTSIDE, 0, low, 1},
            {Calls.RUNS, OUTSIDE, 0, 1, high}, {Calls.THING, OUTSIDE, low}, {Calls.THING, OUTSIDE, high},
            {Calls.USES, UNKNOWN, low, 0, 0, 0}, {Calls.USES, UNKNOWN, 0, high, 0, 0}, {Calls.USES, OUTSIDE, 0, 0, low, 0},
            {Calls.USES, OUTSIDE, 0, 0, 0, high}, {Calls.USES, OUTSIDE, 0, 0, high, low}, {Calls.SIZE, UNKNOWN, low, 1},
            {Calls.SIZE, OUTSIDE, 0, low}, {Calls.SIZE, OUTSIDE, 0, high}, {Calls.SETTING, OUTSIDE, low, 1},
            {Calls.SETTING, OUTSIDE, high, 1}, {Calls.SETTING, OUTSIDE, 0, low}, {Calls.SETTING, OUTSIDE, 1, high},
            {Calls.SETTING, OUTSIDE, 2, low}, {Calls.SETTING, OUTSIDE, 3, high}, {Calls.OF_PART, UNKNOWN, low, 0},
            {Calls.OF_PART, OUTSIDE, 0, low}, {Calls.OF_PART, OUTSIDE, 0, high}, {Calls.PLAN, UNKNOWN, high, 0},
            {Calls.PLAN, OUTSIDE, 0, low}, {Calls.PLAN, OUTSIDE, 0, high}, {Calls.TAKE, OUTSIDE, low, 0},
            {Calls.TAKE, OUTSIDE, 0, high}, {Calls.PLANNED, UNKNOWN, low}, {Calls.PLANNED, UNKNOWN, high},
            {Calls.COST, OUTSIDE, low}, {Calls.COST, OUTSIDE, high}, {Calls.CARRIED, OUTSIDE, low},
            {Calls.CARRIED, OUTSIDE, high}, {Calls.BEST, OUTSIDE, low, 0, 0}, {Calls.BEST, OUTSIDE, 0, high, 0},
            {Calls.BEST, OUTSIDE, 0, 0, low}, {Calls.BEST, OUTSIDE, 0, 0, high}, {Calls.BEST_SET, UNKNOWN, low, 0, 0},
            {Calls.BEST_SET, OUTSIDE, 0, high, 0}, {Calls.BEST_SET, OUTSIDE, 0, 0, low}, {Calls.ROOM, OUTSIDE, low, 0},
            {Calls.ROOM, OUTSIDE, 0, low}, {Calls.ROOM, OUTSIDE, 0, high}, {Calls.DROP, OUTSIDE, high, 0},
            {Calls.DROP, OUTSIDE, 0, low}, {Calls.DROP, OUTSIDE, 0, high}, {Calls.PLACE, UNKNOWN, low, 0, 0},
            {Calls.PLACE, UNKNOWN, 0, high, 0}, {Calls.PLACE, OUTSIDE, 0, 0, low}, {Calls.PLACE, OUTSIDE, 0, 0, high},
            {Calls.STUCK, OUTSIDE, low}, {Calls.STUCK, OUTSIDE, high}, {Calls.REACH, OUTSIDE, low},
            {Calls.REACH, OUTSIDE, high}, {Calls.OF_TIME, UNKNOWN, high, 0, 0}, {Calls.OF_TIME, OUTSIDE, 0, low, 0},
            {Calls.OF_TIME, OUTSIDE, 0, 0, high}, {Calls.TIME, OUTSIDE, low}, {Calls.TIME, OUTSIDE, high},
            {Calls.MANY, OUTSIDE, low}, {Calls.MANY, OUTSIDE, high}};
        all("ints at their ends", whole(), rows);
        FastShelf x = whole();
        for (int[] row : rows) {
            if (row[1] != UNKNOWN) continue;
            for (int i = 2; i < row.length; i++) {
                if (row[i] == 0 || row[i] == 1) row[i] = high;
            }
        }
        all("UNKNOWN with ints at their ends", x, rows);
    }

    private static void partsCome() {
        FastShelf x = whole();
        for (int left = 9; left >= 5; left--) x.cut();
        for (int p = 5; p < 10; p++) {
            due("2 number", x.part(1, 1), p);
            due("2 THE PLAN tells nothing", x.planned(p), 0);
        }
        due("2 the others stay", x.planned(4), 31);
        due("2 full again", x.part(1, 1), FULL);
    }

    private static void comesAgainEmpty() {
        FastShelf x = whole();
        for (int t = 0; t < 5; t++) x.uses(t, 9, 9, 9);
        x.cut();
        for (int t = 0; t < 5; t++) due("4 no uses in what is no more", x.uses(t, 9, 1, 1), UNKNOWN);
        due("4 it comes again", x.part(3, 4), 9);
        due("4 RUNS are the new ones", x.ofPart(9, 0), 3);
        due("4 WORST is the new one", x.ofPart(9, 1), 4);
        for (int t = 0; t < 5; t++) {
            due("4 not READ", x.ofPart(9, 10 + t), 0);
            due("4 not WRITTEN", x.ofPart(9, 20 + t), 0);
            due("4 both were 0", x.uses(t, 9, 0, 0), 0);
        }
        due("4 nothing told", x.plan(9, 31), 0);
        due("4 nothing WRITTEN, nothing RETURNED", x.carried(1), 0);
        due("4 no WORK", x.ofTime(9, 1, 0), 0);
    }

    private static void comesAgainInWhatWasFound() {
        FastShelf x = Samples.make(2, 4);
        x.uses(0, 1, 0, 9);
        due("4 BEST with it", x.take(0, 0), 9 + 16);
        due("4 its set", x.bestSet(1, 0, 0), 1);
        x.cut();
        due("4 BEST without it", x.best(0, 0, 16), 0);
        due("4 STILL without it", x.best(1, 0, 16), 0);
        due("4 no drop without it", x.drop(0, 0), NONE);
        x.part(1, 2);
        due("4 BEST with a new one", x.best(0, 0, 16), 0);
        due("4 the new one's set", x.bestSet(1, 0, 0), 0);
        due("4 STILL with a new one", x.bestSet(1, 1, 0), 0);
        due("4 THE PLAN was for the old one", x.planned(1), 0);
        x.uses(0, 1, 9, 0);
        due("4 BEST with other uses", x.best(0, 0, 16), 9 + 8);
    }

    private static void comesAgainOnTheShelf() {
        FastShelf x = Samples.make(2, 9, 9);
        Samples.tell(x, 1, 3);
        due("4 STUCK with it", x.stuck(0), 1);
        due("4 does not FIT with it", x.misfit(), 1);
        x.cut();
        due("4 not STUCK without it", x.stuck(0), NONE);
        due("4 FITS without it", x.misfit(), NONE);
        due("4 what is used without it", x.reach(0), 9);
        x.part(1, 1);
        due("4 not STUCK with a new one", x.stuck(0), NONE);
        due("4 nothing lies in it", x.place(0, 1, 0), NONE);
        due("4 one STAY", x.many(2), 1);
    }

    private static void cutEndsAStay() {
        FastShelf x = Samples.make(3, 5);
        x.uses(0, 2, 0, 1);
        Samples.tell(x, 0, 1, 1);
        due("4 RETURNED", x.carried(1), 1);
        due("4 TIME", x.time(0), 1 + 10 + 10);
        x.cut();
        due("4 WRITTEN no more, RETURNED no more", x.carried(1), 0);
        due("4 still one STAY", x.many(2), 1);
        due("4 TIME without it", x.time(0), 10);
        x.uses(0, 1, 0, 1);
        due("4 RETURNED behind what is the last now", x.time(0), 1 + 10 + 10);
        x.cut();
        due("4 no STAY", x.many(2), 0);
        due("4 nothing carried", x.time(0), 0);
    }

    private static void cutDownToNothing() {
        FastShelf x = whole();
        for (int left = 9; left >= 0; left--) due("4 left", x.cut(), left);
        due("4 none", x.cut(), STATE);
        due("4 refused again", x.cut(), STATE);
        due("4 nothing to take", x.take(0, 0), STATE);
        due("4 no COST", x.cost(1), 0);
        due("4 no TIME", x.time(1), 0);
        due("4 no STAYS", x.many(2), 0);
        due("4 not STUCK", x.stuck(119), NONE);
        due("4 nothing is used", x.reach(119), 0);
        due("4 FITS", x.misfit(), NONE);
        due("4 THINGS stay", x.many(1), 5);
        due("4 SIZE stays", x.size(4, 12), 12);
        due("4 ROOM stays", x.setting(0, 60), 60);
    }

    private static void mostUsesByWhat() {
        FastShelf x = Samples.make(2, 1, 1, 1, 1, 1);
        for (int t = 0; t < 5; t++) x.uses(t, 1, t, 9 - t);
        for (int t = 0; t < 5; t++) {
            due("9 READ " + t, x.ofPart(1, 10 + t), t);
            due("9 WRITTEN " + t, x.ofPart(1, 20 + t), 9 - t);
            due("9 in the other PART", x.ofPart(0, 20 + t), 0);
        }
        int[] outside = {-1, 2, 9, 15, 16, 19, 25, 30};
        for (int what : outside) due("9 what " + what, x.ofPart(1, what), OUTSIDE);
        FastShelf few = Samples.make(1, 1);
        due("9 THING 0", few.ofPart(0, 10), 0);
        due("9 no THING 1", few.ofPart(0, 11), OUTSIDE);
        due("9 no THING 1 that is WRITTEN", few.ofPart(0, 21), OUTSIDE);
        few.thing(1);
        due("9 THING 1", few.ofPart(0, 21), 0);
    }

    private static void taken() {
        FastShelf x = Samples.make(1, 16);
        x.runs(0, 1, 99);
        x.uses(0, 0, 1, 0);
        x.plan(0, 1);
        due("11 BEST by the mean", x.take(0, 0), 10);
        due("11 nothing is in", x.planned(0), 0);
        due("11 BEST at worst", x.take(0, 1), 99 + 32);
        due("11 it is in", x.planned(0), 1);
        due("11 STILL by the mean", x.take(1, 0), 10);
        due("11 nothing is in, STILL", x.planned(0), 0);
        due("11 STILL at worst", x.take(1, 1), 99 + 32);
        x.setting(0, 15);
        due("11 THE PLAN stays", x.planned(0), 1);
        due("11 one cell fewer", x.take(1, 1), 990);
        due("11 it does not fit any more", x.planned(0), 0);
        x.part(1, 1);
        x.plan(1, 1);
        due("11 all PARTS are told", x.take(0, 1), 990);
        due("11 the last too", x.planned(1), 0);
    }

    private static void misfitAtEachPart() {
        FastShelf x = Samples.make(10, 17);
        for (int p = 9; p >= 0; p--) {
            x.plan(p, 1);
            due("13 the first is " + p, x.misfit(), p);
        }
        x.size(0, 16);
        due("13 just as much", x.misfit(), NONE);
        x.setting(0, 15);
        due("13 one fewer", x.misfit(), 0);
    }

    private static void carriedByWhat() {
        FastShelf x = Samples.make(10, 1, 1, 1, 1, 1);
        for (int t = 0; t < 5; t++) {
            for (int stay = 0; stay <= t; stay++) {
                x.plan(2 * stay, x.planned(2 * stay) | 1 << t);
                if (stay > 0) x.uses(t, 2 * stay, 0, 1);
            }
        }
        for (int t = 0; t < 5; t++) {
            due("15 FETCHED " + t, x.carried(10 + t), t + 1);
            due("15 RETURNED " + t, x.carried(20 + t), t);
        }
        due("15 FETCHED", x.carried(0), 15);
        due("15 RETURNED", x.carried(1), 10);
        int[] outside = {-1, 2, 9, 15, 19, 25, 30};
        for (int what : outside) due("15 what " + what, x.carried(what), OUTSIDE);
    }

    private static void bestAtTheEndsOfRoom() {
        FastShelf x = Samples.make(1, 20, 20, 20);
        for (int t = 0; t < 3; t++) x.uses(t, 0, 9, 0);
        int[][] rows = {{0, 270}, {19, 270}, {20, 229}, {39, 229}, {40, 188}, {59, 188}, {60, 147}};
        for (int[] row : rows) {
            due("16 BEST, ROOM " + row[0], x.best(0, 0, row[0]), row[1]);
            due("16 STILL, ROOM " + row[0], x.best(1, 0, row[0]), row[1]);
        }
        due("16 ROOM -1", x.best(0, 0, -1), OUTSIDE);
        due("16 ROOM 61", x.best(1, 0, 61), OUTSIDE);
        for (int r : new int[] {60, 0, 59, 1}) {
            x.setting(0, r);
            due("16 not by the ROOM there is", x.best(0, 0, 40), 188);
        }
    }

    private static void bestSetIsByRoom() {
        FastShelf x = Samples.make(1, 20, 20, 20);
        for (int t = 0; t < 3; t++) x.uses(t, 0, 9, 0);
        int[][] rows = {{60, 7}, {59, 3}, {40, 3}, {39, 1}, {20, 1}, {19, 0}, {0, 0}, {60, 7}};
        for (int[] row : rows) {
            x.setting(0, row[0]);
            x.best(0, 0, 60 - row[0]);
            for (int how = 0; how < 2; how++) due("17 ROOM " + row[0], x.bestSet(0, how, 0), row[1]);
        }
    }

    private static void roomByCost() {
        FastShelf x = Samples.make(1, 20, 20, 20);
        for (int t = 0; t < 3; t++) x.uses(t, 0, 9, 0);
        int[][] rows = {{9999999, 0}, {271, 0}, {270, 0}, {269, 20}, {229, 20}, {228, 40}, {188, 40}, {187, 60},
            {147, 60}, {146, NONE}, {0, NONE}};
        for (int[] row : rows) due("18 v " + row[0], x.room(0, row[0]), row[1]);
        x.setting(0, 0);
        due("18 not by the ROOM there is", x.room(0, 147), 60);
        due("18 which stays", x.setting(0, 0), 0);
    }

    private static void roomAtTheEnds() {
        FastShelf x = Samples.make(1, 1);
        x.uses(0, 0, 1, 0);
        x.setting(2, 0);
        x.setting(3, 0);
        due("18 v 0 with one cell", x.room(0, 0), 1);
        due("18 v -1", x.room(0, -1), OUTSIDE);
        due("18 v 10000000", x.room(0, 10000000), OUTSIDE);
        x.uses(0, 0, 0, 0);
        due("18 v 0 with none", x.room(1, 0), 0);
        due("18 the heaviest", Samples.heaviest().room(1, 1782000), 0);
        due("18 the heaviest, one less", Samples.heaviest().room(1, 1781999), NONE);
    }

    private static void mostDrops() {
        // What is gained is as the cells: each cell more makes it cheaper, up to 31.
        FastShelf x = Samples.make(1, 1, 2, 4, 8, 16);
        for (int t = 0; t < 5; t++) x.uses(t, 0, Math.min(9, 1 << t), Math.max(0, (1 << t) - 9));
        x.setting(3, 0);
        for (int k = 0; k < 31; k++) {
            due("19 drop " + k, x.drop(0, k), k + 1);
            due("19 at worst " + k, x.drop(1, k), k + 1);
        }
        due("19 there are fewer", x.drop(0, 31), NONE);
        due("19 k 59", x.drop(0, 59), NONE);
        due("19 k 60", x.drop(0, 60), OUTSIDE);
        due("19 k -1", x.drop(0, -1), OUTSIDE);
    }

    private static void firstAndLastDrop() {
        FastShelf x = Samples.make(1, 20, 20, 20);
        x.setting(0, 0);
        for (int t = 0; t < 3; t++) x.uses(t, 0, 9, 0);
        int[] drops = {20, 40, 60, NONE};
        for (int k = 0; k < 4; k++) due("19 drop " + k, x.drop(0, k), drops[k]);
        for (int t = 0; t < 3; t++) x.size(t, 1);
        for (int k = 0; k < 4; k++) due("19 small drop " + k, x.drop(0, k), k < 3 ? k + 1 : NONE);
        for (int t = 0; t < 3; t++) x.uses(t, 0, 0, 0);
        due("19 ROOM 0 is none", x.drop(0, 0), NONE);
        x.runs(0, 1, 2);
        x.size(0, 5);
        x.uses(0, 0, 1, 0);
        x.setting(3, 3);
        due("19 by the mean it is not worth while", x.drop(0, 0), NONE);
        due("19 at worst it is", x.drop(1, 0), 5);
        FastShelf one = Samples.make(1, 7);
        one.uses(0, 0, 1, 0);
        one.setting(2, 9);
        one.setting(3, 0);
        due("19 less by one", one.drop(0, 0), 7);
        due("18 less by one", one.room(0, 9), 7);
        one.setting(2, 10);
        due("19 the same", one.drop(0, 0), NONE);
    }

    private static void orderAtTheEnds() {
        FastShelf x = Samples.make(2, 2, 2, 4);
        x.setting(0, 6);
        // THING 2 needs all that THING 1 leaves in one piece, so that THING 1 must lie at 0.
        Samples.tell(x, 3, 6);
        due("22 ORDER 0", x.stuck(0), 1);
        due("22 the first of those that are not", x.order(), 2);
        due("22 it", x.stuck(2), NONE);
        due("22 the one ahead of it", x.stuck(1), 1);
        x.setting(0, 5);
        due("22 none", x.order(), NONE);
        x.setting(0, 8);
        due("22 the first of all", x.order(), 0);
        FastShelf one = Samples.make(1, 20);
        one.plan(0, 1);
        due("22 one ORDER, STUCK", one.order(), NONE);
        one.setting(0, 20);
        due("22 one ORDER", one.order(), 0);
        onlyTheLastOrder();
        eachOrderIsStuck();
    }

    private static void onlyTheLastOrder() {
        FastShelf x = Samples.make(4, 3, 4, 1, 5);
        x.setting(0, 11);
        Samples.tell(x, 7, 14, 3, 13);
        due("22 the last", x.order(), 23);
        // By 3 2 1 0: THING 2 at 0, 1 at 1, 0 at 5; 3 at 5; 0 at 5 again; 3 at 0 and 2 at 8.
        int[][] places = {{5, 1, 0, NONE}, {NONE, 1, 0, 5}, {5, 1, NONE, NONE}, {5, NONE, 8, 0}};
        for (int p = 0; p < 4; p++) {
            for (int t = 0; t < 4; t++) due("20 THING " + t + " in PART " + p, x.place(t, p, 23), places[p][t]);
        }
        due("23 up to the ten cells of PART 1", x.reach(23), 10);
        // By 3 2 0 1 THING 1 lies at 4 .. 7: three cells are free below it and three above it.
        due("21 the last but one", x.stuck(22), 1);
        x.thing(1);
        // A THING that is never IN: 3 2 1 0 4 is the first row of these five, behind 3 * 24 + 2 * 6 + 1 * 2 others.
        due("22 with one more THING", x.order(), 86);
    }

    private static void eachOrderIsStuck() {
        FastShelf x = Samples.make(1, 1, 1, 1, 1, 1);
        x.plan(0, 31);
        x.setting(0, 5);
        due("23 all beside one another", x.reach(119), 5);
        for (int t = 0; t < 5; t++) due("20 the last ORDER", x.place(t, 0, 119), 4 - t);
        for (int t = 0; t < 5; t++) due("20 the first ORDER", x.place(t, 0, 0), t);
        x.setting(0, 4);
        due("22 each of 120 is STUCK", x.order(), NONE);
        for (int order = 0; order < 120; order++) due("21 STUCK by " + order, x.stuck(order), 0);
    }

    private static void reachIsTheMost() {
        FastShelf x = Samples.make(3, 2, 5, 3);
        due("23 nothing", x.reach(5), 0);
        Samples.tell(x, 0, 7, 0);
        due("23 in the middle", x.reach(0), 10);
        Samples.tell(x, 3, 2, 6);
        // THING 1 stays at 2 .. 6; THING 2 of 3 cells lies at 7.
        due("23 with a gap below", x.reach(0), 10);
        due("23 without one", x.reach(2), 8);
        x.setting(0, 10);
        due("23 just enough", x.reach(0), 10);
        x.setting(0, 9);
        due("23 STUCK", x.reach(0), NONE);
        due("23 by another ORDER", x.reach(2), 8);
        due("23 no ORDER 6", x.reach(6), OUTSIDE);
        due("23 no ORDER -1", x.reach(-1), OUTSIDE);
    }

    private static void manyByWhat() {
        FastShelf x = new FastShelf();
        for (int n = 1; n <= 10; n++) {
            x.part(1, 1);
            due("26 PARTS", x.many(0), n);
        }
        int[] orders = {1, 2, 6, 24, 120};
        for (int n = 1; n <= 5; n++) {
            x.thing(1);
            due("26 THINGS", x.many(1), n);
            due("26 ORDERS", x.many(3), orders[n - 1]);
        }
        due("26 no STAYS", x.many(2), 0);
        for (int p = 0; p < 10; p += 2) x.plan(p, 31);
        due("26 most STAYS", x.many(2), 25);
        for (int p = 1; p < 10; p += 2) x.plan(p, 31);
        due("26 STAYS of all PARTS", x.many(2), 5);
        due("26 what 4", x.many(4), OUTSIDE);
        due("26 what -1", x.many(-1), OUTSIDE);
    }

    private static void objectsAreApart() {
        FastShelf whole = whole();
        FastShelf x = new FastShelf();
        due("1 no PARTS", x.many(0), 0);
        due("1 no THINGS", x.many(1), 0);
        due("1 ROOM at first", x.setting(0, 1), 16);
        x.part(1, 1);
        x.thing(1);
        due("1 not READ", x.ofPart(0, 10), 0);
        due("1 nothing told", x.planned(0), 0);
        due("1 the other is as it was", whole.cost(0), 163);
        due("1 its ROOM too", whole.setting(0, 60), 60);
    }
}
