/** The sentences of "Terms" that name a boundary, each with a test of its own, reckoned by hand. */
public final class TermsTest {
    private static final int UNKNOWN = -1, OUTSIDE = -2, STATE = -3, FULL = -4, NONE = -9;

    public static void main(String[] args) {
        refusalsInOrder();
        setsAreBits();
        numberOfParts();
        numberOfThings();
        runsAndWorst();
        sizes();
        readAndWritten();
        settingsAtFirst();
        settingsBounds();
        fits();
        staysAtTheEnds();
        staysAsLongAsMayBe();
        writtenInAnyPart();
        fetchedWithTheFirst();
        work();
        workOfTheHeaviest();
        bestOfSeveral();
        bestPutsOffAndLetsGo();
        bestTakesTheLesserNumber();
        bestOfThoseThatFit();
        writtenAgainIsReturnedOnce();
        stillOfSeveral();
        asItIsWhenAsked();
        leastPlace();
        shelfToTheLastCell();
        goneAheadOfComing();
        placesAreKept();
        stuckAtTheEnds();
        stuckThoughItFits();
        ordersAreNumbered();
        loadOfPartZero();
        stallByOne();
        stallByKind();
        returnedBehindTheLast();
        Check.end("the terms hold at their bounds");
    }

    private static void due(String what, int got, int want) {
        Check.due(what, got, want);
    }

    private static void refusalsInOrder() {
        FastShelf none = new FastShelf();
        due("UNKNOWN ahead of OUTSIDE: runs", none.runs(0, 0, 0), UNKNOWN);
        due("UNKNOWN ahead of OUTSIDE: uses, thing", none.uses(0, 0, 10, 10), UNKNOWN);
        due("UNKNOWN ahead of OUTSIDE: size", none.size(0, 0), UNKNOWN);
        due("UNKNOWN ahead of OUTSIDE: ofPart", none.ofPart(0, 2), UNKNOWN);
        due("UNKNOWN ahead of OUTSIDE: plan", none.plan(0, 1), UNKNOWN);
        due("UNKNOWN ahead of OUTSIDE: bestSet", none.bestSet(0, 2, 2), UNKNOWN);
        due("UNKNOWN ahead of OUTSIDE: place", none.place(0, 0, 1), UNKNOWN);
        due("UNKNOWN ahead of OUTSIDE: ofTime", none.ofTime(0, 2, 3), UNKNOWN);
        due("OUTSIDE ahead of STATE: take, how", none.take(2, 0), OUTSIDE);
        due("OUTSIDE ahead of STATE: take, kind", none.take(0, 2), OUTSIDE);
        due("STATE: take", none.take(1, 1), STATE);
        FastShelf all = Samples.heaviest();
        due("OUTSIDE ahead of FULL: part", all.part(99, 98), OUTSIDE);
        due("OUTSIDE ahead of FULL: thing", all.thing(21), OUTSIDE);
        due("FULL: part", all.part(99, 99), FULL);
        due("FULL: thing", all.thing(20), FULL);
    }

    private static void setsAreBits() {
        FastShelf x = Samples.make(1, 1, 2, 3, 4, 5);
        for (int t = 0; t < 5; t++) {
            x.plan(0, 1 << t);
            for (int other = 0; other < 5; other++) {
                due("bit " + t + ", THING " + other, x.carried(10 + other), other == t ? 1 : 0);
            }
            due("bit " + t + " by its SIZE", x.cost(0), 2 * (t + 1));
        }
        x.plan(0, 31);
        due("all bits", x.carried(0), 5);
        due("all bits by SIZE", x.cost(0), 30);
    }

    private static void numberOfParts() {
        FastShelf x = new FastShelf();
        for (int p = 0; p < 10; p++) {
            due("PART " + p + " is not yet there", x.ofPart(p, 0), UNKNOWN);
            due("PART " + p, x.part(p + 1, p + 2), p);
            due("PART " + p + " is there", x.ofPart(p, 0), p + 1);
        }
        due("no eleventh", x.part(1, 1), FULL);
        due("the eleventh is not there", x.planned(10), UNKNOWN);
        for (int left = 9; left >= 0; left--) due("left " + left, x.cut(), left);
        due("none is left", x.cut(), STATE);
        due("from 0 on again", x.part(1, 1), 0);
    }

    private static void numberOfThings() {
        FastShelf x = Samples.make(1);
        for (int t = 0; t < 5; t++) {
            due("THING " + t + " is not yet there", x.size(t, 1), UNKNOWN);
            due("its bit is not yet there", x.plan(0, 1 << t), OUTSIDE);
            due("THING " + t, x.thing(t + 1), t);
            due("THING " + t + " is there", x.size(t, t + 1), t + 1);
        }
        due("no sixth", x.thing(1), FULL);
        due("the sixth is not there", x.size(5, 1), UNKNOWN);
        due("nor its bit", x.plan(0, 32), OUTSIDE);
        x.cut();
        due("a cut makes no room for a THING", x.thing(1), FULL);
    }

    private static void runsAndWorst() {
        int[][] taken = {{1, 1}, {1, 2}, {1, 99}, {2, 2}, {98, 98}, {98, 99}, {99, 99}};
        int[][] refused = {{0, 0}, {0, 1}, {1, 0}, {2, 1}, {99, 98}, {1, 100}, {99, 100}, {100, 99}, {100, 100}};
        for (int[] g : taken) {
            FastShelf x = new FastShelf();
            due("part(" + g[0] + ", " + g[1] + ")", x.part(g[0], g[1]), 0);
            x.part(50, 50);
            due("runs(1, " + g[0] + ", " + g[1] + ")", x.runs(1, g[0], g[1]), 1);
            for (int p = 0; p < 2; p++) {
                due("RUNS " + g[0], x.ofPart(p, 0), g[0]);
                due("WORST " + g[1], x.ofPart(p, 1), g[1]);
            }
        }
        FastShelf x = new FastShelf();
        x.part(50, 60);
        for (int[] g : refused) {
            due("part(" + g[0] + ", " + g[1] + ")", x.part(g[0], g[1]), OUTSIDE);
            due("runs(0, " + g[0] + ", " + g[1] + ")", x.runs(0, g[0], g[1]), OUTSIDE);
        }
        // The new WORST is held against the new RUNS, not against the old ones.
        due("both below the old RUNS", x.runs(0, 3, 4), 1);
        due("both above the old WORST", x.runs(0, 70, 80), 1);
        due("refused ones came not", x.many(0), 1);
    }

    private static void sizes() {
        FastShelf x = Samples.make(1, 20);
        due("SIZE 0", x.thing(0), OUTSIDE);
        due("SIZE 21", x.thing(21), OUTSIDE);
        due("SIZE 1", x.thing(1), 1);
        due("SIZE becomes 0", x.size(0, 0), OUTSIDE);
        due("SIZE becomes 21", x.size(0, 21), OUTSIDE);
        due("SIZE becomes 1", x.size(0, 1), 20);
        due("SIZE becomes 20", x.size(1, 20), 1);
        x.plan(0, 1);
        due("one cell is carried", x.cost(0), 2);
        x.plan(0, 2);
        due("twenty cells are carried", x.cost(0), 40);
    }

    private static void readAndWritten() {
        FastShelf x = Samples.make(10, 1, 1, 1, 1, 1);
        for (int t = 0; t < 5; t++) {
            for (int p = 0; p < 10; p++) due("0 at first: " + t + ", " + p, x.uses(t, p, 0, 0), 0);
        }
        due("9 and 0", x.uses(4, 9, 9, 0), 0);
        due("0 and 9", x.uses(4, 9, 0, 9), 9);
        due("9 and 9", x.uses(4, 9, 9, 9), 9);
        due("READ 10", x.uses(4, 9, 10, 0), OUTSIDE);
        due("WRITTEN 10", x.uses(4, 9, 0, 10), OUTSIDE);
        due("READ -1", x.uses(4, 9, -1, 0), OUTSIDE);
        due("WRITTEN -1", x.uses(4, 9, 0, -1), OUTSIDE);
        due("READ is still 9", x.ofPart(9, 14), 9);
        due("WRITTEN is still 9", x.ofPart(9, 24), 9);
        due("both were 18", x.uses(4, 9, 0, 0), 18);
        FastShelf late = Samples.make(1);
        late.thing(1);
        due("a THING behind the PARTS is not READ", late.ofPart(0, 10), 0);
        due("nor WRITTEN", late.ofPart(0, 20), 0);
    }

    private static void settingsAtFirst() {
        int[] first = {16, 10, 1, 2};
        for (int k = 0; k < 4; k++) due("SETTING " + k + " at first", new FastShelf().setting(k, first[k]), first[k]);
        // The same seen by what it does: 16 cells fit and 17 do not; 10 out, 1 in, 2 for a cell.
        FastShelf x = Samples.make(1, 16);
        x.uses(0, 0, 1, 0);
        due("SLOW at first", x.cost(0), 10);
        x.plan(0, 1);
        due("ROOM at first", x.misfit(), NONE);
        due("FAST and CARRY at first", x.cost(0), 1 + 2 * 16);
        x.size(0, 17);
        due("beyond ROOM at first", x.misfit(), 0);
    }

    private static void settingsBounds() {
        // SETTING, least, greatest; FAST is 0 and SLOW is 20 then.
        int[][] bounds = {{0, 0, 60}, {1, 1, 20}, {2, 0, 20}, {3, 0, 20}};
        for (int[] b : bounds) {
            FastShelf x = new FastShelf();
            x.setting(1, 20);
            x.setting(2, 0);
            int was = x.setting(b[0], b[2]);
            due("SETTING " + b[0] + " beyond the greatest", x.setting(b[0], b[2] + 1), OUTSIDE);
            due("SETTING " + b[0] + " the least", x.setting(b[0], b[1]), b[2]);
            due("SETTING " + b[0] + " beyond the least", x.setting(b[0], b[1] - 1), OUTSIDE);
            due("SETTING " + b[0] + " as it was", x.setting(b[0], was), b[1]);
        }
        FastShelf x = new FastShelf();
        due("FAST beyond SLOW", x.setting(2, 11), OUTSIDE);
        due("FAST as SLOW", x.setting(2, 10), 1);
        due("SLOW less than FAST", x.setting(1, 9), OUTSIDE);
        due("SLOW as FAST", x.setting(1, 10), 10);
        due("SLOW more than FAST", x.setting(1, 11), 10);
        due("FAST follows", x.setting(2, 11), 10);
        due("no SETTING -1", x.setting(-1, 1), OUTSIDE);
        due("no SETTING 4", x.setting(4, 1), OUTSIDE);
    }

    private static void fits() {
        FastShelf x = Samples.make(10, 12, 12, 12, 12, 12);
        x.setting(0, 60);
        for (int p = 0; p < 10; p++) x.plan(p, 31);
        due("60 cells in ROOM 60", x.misfit(), NONE);
        x.setting(0, 59);
        due("60 cells in ROOM 59", x.misfit(), 0);
        for (int p = 0; p < 9; p++) x.plan(p, 30);
        due("the last PART alone", x.misfit(), 9);
        x.plan(9, 15);
        due("48 cells in ROOM 59", x.misfit(), NONE);
        x.setting(0, 0);
        due("no ROOM", x.misfit(), 0);
        for (int p = 0; p < 10; p++) x.plan(p, 0);
        due("nothing fits in no ROOM", x.misfit(), NONE);
        FastShelf wide = Samples.heaviest();
        wide.plan(5, 15);
        due("80 cells in ROOM 60", wide.misfit(), 5);
        wide.plan(5, 28);
        due("three of twenty in ROOM 60", wide.misfit(), NONE);
    }

    private static void staysAtTheEnds() {
        FastShelf x = Samples.make(10, 5);
        for (int p = 0; p < 10; p++) x.uses(0, p, 0, 1);
        int[] alone = {0, 9, 4};
        for (int p : alone) {
            for (int other = 0; other < 10; other++) x.plan(other, other == p ? 1 : 0);
            due("a STAY of PART " + p, x.many(2), 1);
            due("FETCHED", x.carried(10), 1);
            due("RETURNED", x.carried(20), 1);
            due("COST", x.cost(0), 9 * 10 + 1 + 10 + 10);
        }
        for (int p = 0; p < 10; p++) x.plan(p, 1);
        due("one STAY of all PARTS", x.many(2), 1);
        due("RETURNED once", x.carried(1), 1);
        due("COST of one STAY", x.cost(0), 10 + 10 + 10);
        x.plan(0, 0);
        x.plan(9, 0);
        due("from the second to the last but one", x.many(2), 1);
        for (int p = 0; p < 10; p++) x.plan(p, p == 0 || p == 9 ? 1 : 0);
        due("the last is not next to the first", x.many(2), 2);
        due("both RETURNED", x.carried(20), 2);
    }

    private static void staysAsLongAsMayBe() {
        FastShelf x = Samples.make(10, 1, 1, 1, 1, 1);
        for (int p = 0; p < 10; p++) x.plan(p, p % 2 == 0 ? 21 : 10);
        due("a STAY for each PART and THING", x.many(2), 5 * 3 + 5 * 2);
        for (int p = 0; p < 10; p++) x.plan(p, p % 2 == 0 ? 31 : 0);
        due("most STAYS", x.many(2), 25);
        due("most FETCHED", x.carried(0), 25);
        due("of one THING", x.carried(14), 5);
        due("none is WRITTEN", x.carried(1), 0);
        for (int t = 0; t < 5; t++) {
            for (int p = 0; p < 10; p++) x.uses(t, p, 0, 9);
        }
        due("most RETURNED", x.carried(1), 25);
        due("RETURNED of one THING", x.carried(24), 5);
        for (int p = 1; p < 10; p += 2) x.plan(p, 15);
        due("four stay, one comes and goes", x.many(2), 4 + 5);
        due("THING 0 stays", x.carried(10), 1);
        due("THING 4 comes and goes", x.carried(14), 5);
    }

    private static void writtenInAnyPart() {
        for (int written = 0; written < 5; written++) {
            FastShelf x = Samples.make(5, 5);
            x.uses(0, written, 0, 1);
            Samples.tell(x, 0, 1, 1, 1, 0);
            boolean inStay = written >= 1 && written <= 3;
            due("WRITTEN in PART " + written, x.carried(20), inStay ? 1 : 0);
            due("LOAD behind the STAY, " + written, x.ofTime(4, 0, 1), inStay ? 10 : 0);
            x.uses(0, written, 9, 0);
            due("READ only, in PART " + written, x.carried(20), 0);
            x.uses(0, written, 0, 9);
            due("WRITTEN often is RETURNED once", x.carried(20), inStay ? 1 : 0);
        }
    }

    private static void fetchedWithTheFirst() {
        FastShelf x = Samples.make(4, 3, 5);
        x.uses(0, 1, 0, 1);
        Samples.tell(x, 0, 3, 2, 2);
        int[] load = {0, 2 * (3 + 5), 2 * 3, 0};
        for (int p = 0; p < 4; p++) due("LOAD of PART " + p, x.ofTime(p, 0, 1), load[p]);
        // One comes as another is RETURNED: both are LOAD of the same PART.
        Samples.tell(x, 0, 1, 2, 0);
        due("FETCHED and RETURNED", x.ofTime(2, 0, 1), 2 * (3 + 5));
        due("not WRITTEN, not RETURNED", x.ofTime(3, 0, 1), 0);
    }

    private static void work() {
        FastShelf x = Samples.make(1, 1, 1);
        due("nothing is used", x.ofTime(0, 1, 0), 0);
        x.runs(0, 1, 99);
        x.uses(0, 0, 9, 9);
        x.uses(1, 0, 0, 1);
        due("out, mean", x.ofTime(0, 0, 0), 18 * 10 + 10);
        due("out, worst", x.ofTime(0, 1, 0), 99 * 190);
        x.plan(0, 1);
        due("one in, mean", x.ofTime(0, 0, 0), 18 + 10);
        due("one in, worst", x.ofTime(0, 1, 0), 99 * 28);
        x.setting(2, 0);
        due("FAST 0", x.ofTime(0, 1, 0), 99 * 10);
        x.plan(0, 3);
        due("FAST 0, all in", x.ofTime(0, 1, 0), 0);
        x.setting(2, 10);
        due("FAST as SLOW", x.ofTime(0, 1, 0), 99 * 190);
    }

    private static void workOfTheHeaviest() {
        FastShelf x = Samples.heaviest();
        int work = 99 * 5 * 18 * 20;
        due("all out", x.cost(1), 10 * work);
        due("all out lasts", x.time(1), 10 * work);
        for (int p = 0; p < 10; p += 2) x.plan(p, 31);
        due("most WORK", x.ofTime(0, 0, 0), work);
        due("most LOAD", x.ofTime(2, 0, 1), 2000);
        due("most COST", x.cost(0), 10 * work + 25 * 2 * 400);
        due("all but the first FETCHING is hidden", x.time(0), 10 * work + 2000);
        for (int p = 0; p < 10; p++) x.plan(p, p % 2 == 0 ? 0 : 31);
        due("all but the last RETURNING is hidden", x.time(0), 10 * work + 2000);
        x.setting(2, 0);
        due("three of five at best", x.take(0, 0), 10 * work / 5 * 2 + 3 * 2 * 400);
        for (int p = 0; p < 10; p++) due("the first three, PART " + p, x.planned(p), 7);
        due("and they stay", x.take(1, 1), 10 * work / 5 * 2 + 3 * 2 * 400);
        int[] drops = {20, 40, 60, NONE};
        for (int k = 0; k < 4; k++) due("drop " + k, x.drop(0, k), drops[k]);
    }

    private static void bestOfSeveral() {
        FastShelf x = Samples.make(10, 1, 1, 1, 1, 1);
        for (int t = 0; t < 5; t++) {
            for (int p = 0; p < 10; p++) x.uses(t, p, 1, 0);
        }
        x.setting(2, 10);
        x.setting(3, 0);
        // All PLANS cost the same: the first row of all is the one of empty sets.
        for (int p = 0; p < 10; p++) x.plan(p, 31);
        due("all the same", x.take(0, 0), 500);
        for (int p = 0; p < 10; p++) due("nothing in PART " + p, x.planned(p), 0);
        x.setting(2, 9);
        x.setting(0, 2);
        due("any two", x.take(0, 0), 480);
        for (int p = 0; p < 10; p++) due("the first two in PART " + p, x.planned(p), 3);
    }

    private static void bestPutsOffAndLetsGo() {
        // A gain in PART 1 alone: the lesser set is told ahead of it and behind it.
        FastShelf x = Samples.make(3, 1);
        x.uses(0, 1, 1, 0);
        due("COST with a gain", x.take(0, 0), 3);
        due("not ahead of it", x.planned(0), 0);
        due("there", x.planned(1), 1);
        due("not behind it", x.planned(2), 0);
        // 9 are saved by what is carried for 9: as cheap as not to carry it, which is the lesser row.
        x.setting(3, 9);
        due("COST with no gain", x.take(0, 0), 10);
        due("not carried", x.planned(1), 0);
        x.setting(3, 8);
        due("COST with the least gain", x.take(0, 0), 9);
        due("carried", x.planned(1), 1);
        // Kept in between, as to FETCH it again costs more; let go, where that costs the same.
        FastShelf y = Samples.make(3, 1);
        y.uses(0, 0, 1, 0);
        y.uses(0, 2, 1, 0);
        due("COST of one STAY", y.take(0, 0), 4);
        due("kept", y.planned(1), 1);
        y.setting(3, 0);
        due("COST without CARRY", y.take(0, 0), 2);
        due("let go", y.planned(1), 0);
        due("come again", y.planned(2), 1);
        // To RETURN it costs 18, to write it where it is slow 18 more than fast.
        FastShelf z = Samples.make(2, 9);
        z.uses(0, 0, 9, 0);
        z.uses(0, 1, 0, 2);
        due("COST of either", z.take(0, 0), 9 + 18 + 20);
        due("there while it is READ", z.planned(0), 1);
        due("let go ahead of the writing", z.planned(1), 0);
        z.uses(0, 1, 0, 3);
        due("COST with the RETURNING", z.take(0, 0), 9 + 3 + 18 + 18);
        due("kept for the writing", z.planned(1), 1);
    }

    private static void bestTakesTheLesserNumber() {
        // THINGS 0 and 1 together are as good as THING 2: 3 is less than 4, though it has more THINGS.
        FastShelf x = Samples.make(1, 1, 1, 2);
        x.setting(0, 2);
        x.uses(0, 0, 1, 0);
        x.uses(1, 0, 1, 0);
        x.uses(2, 0, 2, 0);
        due("COST", x.take(0, 0), 20 + 2 + 4);
        due("3 ahead of 4", x.planned(0), 3);
        due("STILL: 3 ahead of 4", x.bestSet(0, 1, 0), 3);
        x.uses(2, 0, 3, 0);
        due("4, if it is better", x.bestSet(0, 0, 0), 4);
        // The first PART where rows differ counts: 1 stays, though 2 would be no dearer.
        FastShelf y = Samples.make(2, 4, 4);
        y.setting(0, 4);
        for (int t = 0; t < 2; t++) {
            for (int p = 0; p < 2; p++) y.uses(t, p, 2, 0);
        }
        due("COST of either", y.take(0, 0), 4 + 40 + 8);
        due("the lesser first", y.planned(0), 1);
        due("and it stays", y.planned(1), 1);
        y.uses(1, 1, 3, 0);
        due("COST of the other", y.take(0, 0), 2 + 3 + 40 + 8);
        due("the better first", y.planned(0), 2);
        due("and that stays", y.planned(1), 2);
    }

    private static void bestOfThoseThatFit() {
        // THING 0 of 2 cells saves 18 and costs 4, THING 1 of 1 cell saves 18 and costs 4 (it is RETURNED).
        FastShelf x = Samples.make(1, 2, 1);
        x.uses(0, 0, 2, 0);
        x.uses(1, 0, 1, 1);
        for (int how = 0; how < 2; how++) {
            x.setting(0, 1);
            due("the lesser set does not FIT: COST", x.best(how, 0, 1), 20 + 2 + 4);
            due("the lesser set does not FIT", x.bestSet(0, how, 0), 2);
            x.setting(0, 2);
            due("it FITS", x.bestSet(0, how, 0), 1);
            x.setting(0, 3);
            due("both FIT", x.bestSet(0, how, 0), 3);
        }
    }

    private static void writtenAgainIsReturnedOnce() {
        // PART 1 saves 9 by the THING, less than the 10 that it would cost to RETURN it once more.
        FastShelf x = Samples.make(3, 5);
        x.uses(0, 0, 0, 9);
        x.uses(0, 1, 0, 1);
        due("COST", x.take(0, 0), 9 + 1 + 10 + 10);
        due("in for the first writing", x.planned(0), 1);
        due("kept for the second", x.planned(1), 1);
        due("let go behind it", x.planned(2), 0);
        due("RETURNED once", x.carried(1), 1);
        x.uses(0, 0, 9, 0);
        due("COST, if it is first READ", x.take(0, 0), 9 + 10 + 10);
        due("not kept for the writing", x.planned(1), 0);
    }

    private static void stillOfSeveral() {
        FastShelf x = Samples.make(2, 3, 3, 6);
        x.setting(0, 6);
        x.uses(0, 0, 1, 0);
        x.uses(1, 1, 1, 0);
        x.uses(2, 0, 1, 0);
        x.uses(2, 1, 1, 0);
        due("COST of either", x.best(1, 0, 6), 20 + 2 + 12);
        due("3 ahead of 4", x.bestSet(1, 1, 0), 3);
        x.setting(3, 3);
        due("no gain any more: COST", x.best(1, 0, 6), 40);
        due("no gain any more", x.bestSet(0, 1, 0), 0);
        x.setting(3, 0);
        due("without CARRY", x.bestSet(0, 1, 0), 3);
        x.setting(0, 0);
        due("without ROOM", x.bestSet(0, 1, 0), 0);
    }

    private static void asItIsWhenAsked() {
        FastShelf x = Samples.make(1, 4);
        x.uses(0, 0, 2, 0);
        due("BEST", x.best(0, 0, 16), 10);
        x.setting(1, 20);
        due("no ROOM, by SLOW", x.best(0, 0, 0), 40);
        x.setting(2, 2);
        due("by FAST", x.best(0, 0, 16), 12);
        x.setting(3, 3);
        due("by CARRY", x.best(0, 0, 16), 16);
        x.size(0, 5);
        due("by SIZE", x.best(0, 0, 16), 19);
        x.uses(0, 0, 3, 0);
        due("by READ", x.best(0, 0, 16), 21);
        x.uses(0, 0, 3, 1);
        due("by WRITTEN", x.best(0, 0, 16), 38);
        x.runs(0, 2, 5);
        due("by RUNS", x.best(0, 0, 16), 46);
        due("by WORST", x.best(0, 1, 16), 70);
        x.part(1, 1);
        x.uses(0, 1, 1, 0);
        due("by a PART more", x.best(0, 0, 16), 48);
        x.thing(16);
        x.uses(1, 0, 1, 0);
        due("by a THING more", x.best(0, 0, 16), 88);
        due("taken", x.take(0, 0), 88);
        x.setting(0, 4);
        due("THE PLAN stays as ROOM is less", x.planned(0), 1);
        due("and does not FIT", x.misfit(), 0);
        due("BEST by ROOM", x.bestSet(0, 0, 0), 0);
        x.cut();
        due("COST of THE PLAN by a PART fewer", x.cost(0), 86);
        due("by a PART fewer", x.best(0, 0, 16), 86);
    }

    private static void leastPlace() {
        FastShelf x = Samples.make(3, 3, 4, 5, 4);
        x.setting(0, 20);
        // THINGS 0, 1, 2 lie at 0, 3, 7; then THING 1 goes: four cells are free from 3 on.
        Samples.tell(x, 7, 5, 13);
        due("a gap just as large", x.place(3, 2, 0), 3);
        x.size(3, 5);
        due("a gap one too small", x.place(3, 2, 0), 12);
        x.size(3, 1);
        due("a gap that is larger: its least PLACE", x.place(3, 2, 0), 3);
        Samples.tell(x, 7, 4, 12);
        x.size(3, 7);
        due("two gaps that have become one", x.place(3, 2, 0), 0);
        x.size(3, 8);
        due("one too small", x.place(3, 2, 0), 12);
        x.setting(0, 19);
        due("and no cell is left", x.place(3, 2, 0), NONE);
        due("STUCK", x.stuck(0), 2);
    }

    private static void shelfToTheLastCell() {
        FastShelf x = Samples.make(1, 20, 20, 20, 1, 19);
        x.setting(0, 60);
        x.plan(0, 7);
        due("the last twenty cells", x.place(2, 0, 0), 40);
        due("all of the shelf", x.reach(0), 60);
        x.plan(0, 27);
        due("one cell at 40", x.place(3, 0, 0), 40);
        due("the other 19 behind it", x.place(4, 0, 0), 41);
        due("all 60", x.reach(0), 60);
        due("one cell behind 19 by the last ORDER", x.place(3, 0, 119), 19);
        x.plan(0, 31);
        due("one cell more than there is", x.stuck(0), 0);
        x.size(2, 1);
        x.size(4, 18);
        due("60 cells again", x.stuck(0), NONE);
        due("behind all others", x.place(4, 0, 0), 42);
        x.setting(0, 1);
        x.plan(0, 8);
        due("ROOM 1", x.place(3, 0, 0), 0);
        due("one cell is used", x.reach(0), 1);
        x.setting(0, 0);
        due("ROOM 0", x.place(3, 0, 0), NONE);
        due("STUCK in ROOM 0", x.stuck(0), 0);
        x.plan(0, 0);
        due("nothing in ROOM 0", x.stuck(0), NONE);
        due("nothing is used", x.reach(0), 0);
    }

    private static void goneAheadOfComing() {
        FastShelf x = Samples.make(10, 10, 10);
        x.setting(0, 10);
        for (int p = 0; p < 10; p++) x.plan(p, 1 + p % 2);
        due("one goes as the other comes", x.stuck(0), NONE);
        due("by the other ORDER", x.stuck(1), NONE);
        for (int p = 0; p < 10; p++) due("all of it, PART " + p, x.place(p % 2, p, 0), 0);
        x.setting(0, 9);
        due("one cell too few", x.stuck(0), 0);
    }

    private static void placesAreKept() {
        FastShelf x = Samples.make(10, 2, 3);
        x.plan(0, 3);
        for (int p = 1; p < 9; p++) x.plan(p, 2);
        for (int p = 0; p < 9; p++) due("kept in PART " + p, x.place(1, p, 0), 2);
        due("gone in PART 9", x.place(1, 9, 0), NONE);
        x.plan(9, 3);
        due("kept to the last", x.place(1, 9, 0), 2);
        due("the other comes again", x.place(0, 9, 0), 0);
        x.plan(8, 0);
        due("a new STAY by the last ORDER", x.place(1, 9, 1), 0);
        due("ahead of that as it was", x.place(1, 7, 0), 2);
        due("as much as is used at most", x.reach(0), 5);
    }

    private static void stuckAtTheEnds() {
        FastShelf x = Samples.make(10, 6, 6, 6);
        x.setting(0, 12);
        x.plan(9, 7);
        due("at the last", x.stuck(5), 9);
        due("by each ORDER", x.order(), NONE);
        due("nothing is reached", x.reach(5), NONE);
        for (int p = 0; p < 9; p++) x.plan(p, 1);
        due("told just ahead of it", x.place(0, 8, 0), 0);
        due("not at it, though it lay there", x.place(0, 9, 0), NONE);
        x.plan(0, 7);
        due("at the first", x.stuck(0), 0);
        due("not at the first, though it was given one", x.place(0, 0, 0), NONE);
        due("nor behind it", x.place(0, 5, 0), NONE);
        due("what is not IN", x.place(2, 5, 0), NONE);
        x.setting(0, 18);
        due("at none", x.stuck(0), NONE);
        due("the first ORDER", x.order(), 0);
    }

    private static void stuckThoughItFits() {
        // THINGS 0, 1, 2 of 2 cells; 1 stays in the middle; THING 3 of 4 finds 2 and 2.
        FastShelf x = Samples.make(2, 2, 2, 2, 4);
        x.setting(0, 6);
        Samples.tell(x, 7, 10);
        due("it FITS", x.misfit(), NONE);
        due("STUCK", x.stuck(0), 1);
        due("told ahead of it", x.place(2, 0, 0), 4);
        // 0 2 1 3 is the ORDER 2: THING 1 lies at the end.
        due("the first ORDER", x.order(), 2);
        due("its PLACE", x.place(3, 1, 2), 0);
        due("the last ORDER", x.stuck(23), 1);
        x.plan(1, 11);
        due("all stay but one", x.misfit(), 1);
        due("by each it is", x.order(), NONE);
    }

    private static void ordersAreNumbered() {
        int[] sizes = {1, 2, 4, 8, 16};
        for (int things = 0; things <= 5; things++) {
            FastShelf x = Samples.make(1);
            for (int t = 0; t < things; t++) x.thing(sizes[t]);
            x.setting(0, 60);
            x.plan(0, (1 << things) - 1);
            int count = numberFrom(x, things, sizes, new int[things], 0, 0);
            due("ORDERS of " + things, x.many(3), count);
            due("the last ORDER of " + things, x.stuck(count - 1), NONE);
            due("none behind it", x.stuck(count), OUTSIDE);
        }
    }

    /** Rows of THINGS from the lesser numbers on; every second one is asked about, within the calls of an object. */
    private static int numberFrom(FastShelf x, int things, int[] sizes, int[] row, int at, int order) {
        if (at == things) {
            int place = 0;
            for (int i = 0; i < things && order % 2 == 0; i++) {
                due("ORDER " + order + " of " + things + ", THING " + row[i], x.place(row[i], 0, order), place);
                place += sizes[row[i]];
            }
            return order + 1;
        }
        int next = order;
        for (int t = 0; t < things; t++) {
            boolean free = true;
            for (int i = 0; i < at; i++) free &= row[i] != t;
            row[at] = t;
            if (free) next = numberFrom(x, things, sizes, row, at + 1, next);
        }
        return next;
    }

    private static void loadOfPartZero() {
        FastShelf x = Samples.make(1, 20, 20, 20, 20, 20);
        due("nothing FETCHED", x.ofTime(0, 0, 1), 0);
        due("no STALL", x.ofTime(0, 0, 2), 0);
        x.plan(0, 31);
        x.setting(3, 20);
        due("all FETCHED", x.ofTime(0, 0, 1), 2000);
        due("STALL is all of it", x.ofTime(0, 0, 2), 2000);
        x.uses(0, 0, 9, 9);
        x.runs(0, 99, 99);
        due("WORK of PART 0 hides nothing of it", x.ofTime(0, 1, 2), 2000);
        due("nor does what is RETURNED behind it add to it", x.ofTime(0, 1, 1), 2000);
        x.setting(3, 0);
        due("without CARRY", x.ofTime(0, 0, 2), 0);
    }

    private static void stallByOne() {
        FastShelf x = Samples.make(2, 5, 1);
        x.uses(1, 0, 1, 0);
        x.plan(1, 1);
        // LOAD of PART 1 is 10; WORK ahead is SLOW.
        due("LOAD", x.ofTime(1, 0, 1), 10);
        due("LOAD as WORK", x.ofTime(1, 0, 2), 0);
        x.setting(1, 9);
        due("LOAD one more", x.ofTime(1, 0, 2), 1);
        due("TIME with it", x.time(0), 9 + 1);
        x.setting(1, 11);
        due("LOAD one less", x.ofTime(1, 0, 2), 0);
        due("TIME without it", x.time(0), 11);
        x.uses(1, 0, 0, 0);
        due("no WORK ahead", x.ofTime(1, 0, 2), 10);
        // WORK of the PART just ahead counts, not of any ahead of that.
        x.part(1, 1);
        Samples.tell(x, 0, 0, 1);
        x.uses(1, 0, 9, 9);
        due("WORK further ahead hides nothing", x.ofTime(2, 0, 2), 10);
        x.uses(1, 2, 9, 9);
        due("nor does its own", x.ofTime(2, 0, 2), 10);
    }

    private static void stallByKind() {
        FastShelf x = Samples.make(2, 6, 1);
        x.runs(0, 1, 2);
        x.uses(1, 0, 1, 0);
        x.plan(1, 1);
        due("LOAD by the mean", x.ofTime(1, 0, 1), 12);
        due("LOAD at worst", x.ofTime(1, 1, 1), 12);
        due("STALL by the mean", x.ofTime(1, 0, 2), 2);
        due("STALL at worst", x.ofTime(1, 1, 2), 0);
        due("TIME by the mean", x.time(0), 10 + 2);
        due("TIME at worst", x.time(1), 20);
    }

    private static void returnedBehindTheLast() {
        FastShelf x = Samples.make(2, 5, 7);
        x.runs(1, 99, 99);
        x.uses(0, 1, 0, 9);
        x.uses(1, 0, 0, 1);
        Samples.tell(x, 0, 1);
        // WORK 10 and 891, LOAD 10 of PART 1 hidden, 10 RETURNED though the last PART works long.
        due("whole", x.time(0), 10 + 891 + 10);
        x.part(1, 1);
        due("behind the last but one it is hidden", x.time(0), 10 + 891);
        due("as LOAD of the last", x.ofTime(2, 0, 1), 10);
        x.plan(2, 1);
        due("WRITTEN ahead, RETURNED behind the last", x.time(0), 10 + 891 + 10);
        x.uses(0, 1, 9, 0);
        due("not WRITTEN, not RETURNED", x.time(0), 10 + 891);
        Samples.tell(x, 2, 2, 2);
        due("two ends", x.time(0), 14 + 1 + 8910 + 14);
    }
}
