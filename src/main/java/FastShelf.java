import java.util.Arrays;

/**
 * A small fast shelf beside a large slow one: a program of PARTS that read and write THINGS, a PLAN of what is on the
 * fast shelf in which PART, what it costs, which PLAN is the cheapest, where each THING lies and how long it lasts.
 */
public final class FastShelf {
    public static final int UNKNOWN = -1, OUTSIDE = -2, STATE = -3, FULL = -4, NONE = -9;

    private static final int MOST_PARTS = 10;
    private static final int MOST_THINGS = 5;
    private static final int MOST_RUNS = 99;
    private static final int MOST_SIZE = 20;
    private static final int MOST_USES = 9;
    private static final int MOST_ROOM = 60;
    private static final int MOST_SPEED = 20;
    private static final int MOST_COST = 9999999;

    private static final int ROOM = 0;
    private static final int SLOW = 1;
    private static final int FAST = 2;
    private static final int CARRY = 3;

    private static final int MEAN = 0;
    private static final int WORST = 1;
    private static final int KINDS = 2;

    private static final int BEST = 0;
    private static final int STILL = 1;

    private static final int[] FACTORIALS = {1, 1, 2, 6, 24, 120};

    private final Program program;
    private final Plan thePlan;
    private final Finder finder;
    private final Shelf shelf;

    public FastShelf() {
        program = new Program();
        thePlan = new Plan(program);
        finder = new Finder(program);
        shelf = new Shelf(program, thePlan);
    }

    // ---- 1 parts, things

    public int part(int runs, int worst) {
        if (!areRuns(runs, worst)) return OUTSIDE;
        if (program.parts >= MOST_PARTS) return FULL;
        int p = program.addPart(runs, worst);
        thePlan.sets[p] = 0;
        return p;
    }

    public int runs(int p, int runs, int worst) {
        if (!program.hasPart(p)) return UNKNOWN;
        if (!areRuns(runs, worst)) return OUTSIDE;
        program.setRuns(p, runs, worst);
        return 1;
    }

    public int cut() {
        if (program.parts == 0) return STATE;
        program.removeLastPart();
        return program.parts;
    }

    public int thing(int size) {
        if (!within(size, 1, MOST_SIZE)) return OUTSIDE;
        if (program.things >= MOST_THINGS) return FULL;
        return program.addThing(size);
    }

    public int uses(int t, int p, int reads, int writes) {
        if (!program.hasThing(t) || !program.hasPart(p)) return UNKNOWN;
        if (!within(reads, 0, MOST_USES) || !within(writes, 0, MOST_USES)) return OUTSIDE;
        int before = program.usesOf(t, p);
        program.setUses(t, p, reads, writes);
        return before;
    }

    public int size(int t, int v) {
        if (!program.hasThing(t)) return UNKNOWN;
        if (!within(v, 1, MOST_SIZE)) return OUTSIDE;
        int before = program.sizes[t];
        program.setSize(t, v);
        return before;
    }

    public int setting(int k, int v) {
        if (!isSetting(k, v)) return OUTSIDE;
        int before = program.settings[k];
        program.setSetting(k, v);
        return before;
    }

    public int ofPart(int p, int what) {
        if (!program.hasPart(p)) return UNKNOWN;
        if (what == 0) return program.times[MEAN][p];
        if (what == 1) return program.times[WORST][p];
        if (isOfThing(what, 10)) return program.reads[what - 10][p];
        if (isOfThing(what, 20)) return program.writes[what - 20][p];
        return OUTSIDE;
    }

    // ---- 2 plans: one that is told by hand, the best

    public int plan(int p, int set) {
        if (!program.hasPart(p)) return UNKNOWN;
        if (!within(set, 0, program.countSets() - 1)) return OUTSIDE;
        int before = thePlan.sets[p];
        thePlan.sets[p] = set;
        return before;
    }

    public int take(int how, int kind) {
        if (!isHow(how) || !isKind(kind)) return OUTSIDE;
        if (program.parts == 0) return STATE;
        int room = program.settings[ROOM];
        int still = how == STILL ? finder.stillSet(kind, room) : 0;
        for (int p = 0; p < program.parts; p++) {
            thePlan.sets[p] = how == STILL ? still : finder.bestSetOf(p, kind, room);
        }
        thePlan.follow();
        return thePlan.costBy(kind);
    }

    public int planned(int p) {
        if (!program.hasPart(p)) return UNKNOWN;
        return thePlan.sets[p];
    }

    public int misfit() {
        for (int p = 0; p < program.parts; p++) {
            if (program.cellsOf(thePlan.sets[p]) > program.settings[ROOM]) return p;
        }
        return NONE;
    }

    public int cost(int kind) {
        if (!isKind(kind)) return OUTSIDE;
        thePlan.follow();
        return thePlan.costBy(kind);
    }

    public int carried(int what) {
        thePlan.follow();
        if (what == 0) return thePlan.countCarried(thePlan.fetched, program.countSets() - 1);
        if (what == 1) return thePlan.countCarried(thePlan.returned, program.countSets() - 1);
        if (isOfThing(what, 10)) return thePlan.countCarried(thePlan.fetched, 1 << (what - 10));
        if (isOfThing(what, 20)) return thePlan.countCarried(thePlan.returned, 1 << (what - 20));
        return OUTSIDE;
    }

    public int best(int how, int kind, int r) {
        if (!isHow(how) || !isKind(kind) || !within(r, 0, MOST_ROOM)) return OUTSIDE;
        return how == STILL ? finder.stillCost(kind, finder.stillSet(kind, r)) : finder.bestCost(kind, r);
    }

    public int bestSet(int p, int how, int kind) {
        if (!program.hasPart(p)) return UNKNOWN;
        if (!isHow(how) || !isKind(kind)) return OUTSIDE;
        int room = program.settings[ROOM];
        return how == STILL ? finder.stillSet(kind, room) : finder.bestSetOf(p, kind, room);
    }

    public int room(int kind, int v) {
        if (!isKind(kind) || !within(v, 0, MOST_COST)) return OUTSIDE;
        return finder.leastRoom(kind, v);
    }

    public int drop(int kind, int k) {
        if (!isKind(kind) || !within(k, 0, MOST_ROOM - 1)) return OUTSIDE;
        // COST never grows with ROOM, so each drop is the least ROOM that beats the COST of the drop before it.
        int at = 0;
        for (int found = 0; found <= k && at != NONE; found++) {
            at = finder.leastRoom(kind, finder.bestCost(kind, at) - 1);
        }
        return at;
    }

    // ---- 3 places of THE PLAN

    public int place(int t, int p, int order) {
        if (!program.hasThing(t) || !program.hasPart(p)) return UNKNOWN;
        if (!isOrder(order)) return OUTSIDE;
        if (!holds(thePlan.sets[p], t)) return NONE;
        if (shelf.fillUpTo(p, order) != NONE) return NONE;
        return shelf.places[t];
    }

    public int stuck(int order) {
        if (!isOrder(order)) return OUTSIDE;
        return shelf.fillUpTo(program.parts - 1, order);
    }

    public int order() {
        int orders = program.countOrders();
        for (int order = 0; order < orders; order++) {
            if (shelf.fillUpTo(program.parts - 1, order) == NONE) return order;
        }
        return NONE;
    }

    public int reach(int order) {
        if (!isOrder(order)) return OUTSIDE;
        if (shelf.fillUpTo(program.parts - 1, order) != NONE) return NONE;
        return shelf.farthest;
    }

    // ---- 4 time of THE PLAN

    public int ofTime(int p, int kind, int what) {
        if (!program.hasPart(p)) return UNKNOWN;
        if (!isKind(kind) || !within(what, 0, 2)) return OUTSIDE;
        thePlan.follow();
        if (what == 0) return thePlan.workOf(p, kind);
        if (what == 1) return thePlan.loadOf(p);
        return thePlan.stallOf(p, kind);
    }

    public int time(int kind) {
        if (!isKind(kind)) return OUTSIDE;
        thePlan.follow();
        return thePlan.timeBy(kind);
    }

    public int many(int what) {
        if (what == 0) return program.parts;
        if (what == 1) return program.things;
        if (what == 2) return countStays();
        if (what == 3) return program.countOrders();
        return OUTSIDE;
    }

    private int countStays() {
        thePlan.follow();
        return thePlan.countCarried(thePlan.fetched, program.countSets() - 1);
    }

    private boolean isSetting(int k, int v) {
        if (k == ROOM) return within(v, 0, MOST_ROOM);
        if (k == SLOW) return within(v, Math.max(1, program.settings[FAST]), MOST_SPEED);
        if (k == FAST) return within(v, 0, program.settings[SLOW]);
        return k == CARRY && within(v, 0, MOST_SPEED);
    }

    private boolean isOfThing(int what, int first) {
        return within(what, first, first + program.things - 1);
    }

    private boolean isOrder(int order) {
        return within(order, 0, program.countOrders() - 1);
    }

    private static boolean areRuns(int runs, int worst) {
        return within(runs, 1, MOST_RUNS) && within(worst, runs, MOST_RUNS);
    }

    private static boolean isKind(int kind) {
        return kind == MEAN || kind == WORST;
    }

    private static boolean isHow(int how) {
        return how == BEST || how == STILL;
    }

    private static boolean within(int v, int least, int most) {
        return v >= least && v <= most;
    }

    private static boolean holds(int set, int t) {
        return (set >> t & 1) == 1;
    }

    /** PARTS, THINGS and SETTINGS as they are now; who calls has looked at the numbers. */
    private static final class Program {
        int parts;
        int things;
        /** Counts what could change a COST, so that what has been found can be kept until then. */
        int changes;
        final int[] settings = {16, 10, 1, 2};
        final int[][] times = new int[KINDS][MOST_PARTS];
        final int[] sizes = new int[MOST_THINGS];
        final int[][] reads = new int[MOST_THINGS][MOST_PARTS];
        final int[][] writes = new int[MOST_THINGS][MOST_PARTS];
        /** For each PART the set of THINGS that it writes. */
        final int[] written = new int[MOST_PARTS];

        boolean hasPart(int p) {
            return within(p, 0, parts - 1);
        }

        boolean hasThing(int t) {
            return within(t, 0, things - 1);
        }

        int addPart(int runs, int worst) {
            int p = parts;
            parts++;
            setRuns(p, runs, worst);
            // A PART that was cut may have had this number.
            for (int t = 0; t < MOST_THINGS; t++) setUses(t, p, 0, 0);
            return p;
        }

        void setRuns(int p, int runs, int worst) {
            times[MEAN][p] = runs;
            times[WORST][p] = worst;
            changes++;
        }

        void removeLastPart() {
            parts--;
            changes++;
        }

        int addThing(int size) {
            int t = things;
            things++;
            setSize(t, size);
            return t;
        }

        void setSize(int t, int v) {
            sizes[t] = v;
            changes++;
        }

        void setUses(int t, int p, int readTimes, int writeTimes) {
            reads[t][p] = readTimes;
            writes[t][p] = writeTimes;
            int others = written[p] & ~(1 << t);
            written[p] = writeTimes > 0 ? others | 1 << t : others;
            changes++;
        }

        void setSetting(int k, int v) {
            settings[k] = v;
            // What has been found is kept by ROOM, so that ROOM changes nothing of it.
            if (k != ROOM) changes++;
        }

        int usesOf(int t, int p) {
            return reads[t][p] + writes[t][p];
        }

        int countSets() {
            return 1 << things;
        }

        int countOrders() {
            return FACTORIALS[things];
        }

        int cellsOf(int set) {
            int cells = 0;
            for (int t = 0; t < things; t++) {
                if (holds(set, t)) cells += sizes[t];
            }
            return cells;
        }

        int carryOf(int set) {
            return settings[CARRY] * cellsOf(set);
        }

        int workOf(int p, int kind, int set) {
            int work = 0;
            for (int t = 0; t < things; t++) {
                work += usesOf(t, p) * settings[holds(set, t) ? FAST : SLOW];
            }
            return work * times[kind][p];
        }
    }

    /** THE PLAN, and what is carried by it. */
    private static final class Plan {
        private final Program program;
        final int[] sets = new int[MOST_PARTS];
        /** For each PART what is FETCHED with it and what is RETURNED behind it, as follow() found it. */
        final int[] fetched = new int[MOST_PARTS];
        final int[] returned = new int[MOST_PARTS];

        Plan(Program program) {
            this.program = program;
        }

        void follow() {
            int in = 0;
            int dirty = 0;
            for (int p = 0; p < program.parts; p++) {
                fetched[p] = sets[p] & ~in;
                in = sets[p];
                dirty = (dirty | program.written[p]) & in;
                int staying = p + 1 < program.parts ? sets[p + 1] : 0;
                returned[p] = dirty & ~staying;
            }
        }

        int countCarried(int[] carriedSets, int among) {
            int count = 0;
            for (int p = 0; p < program.parts; p++) count += Integer.bitCount(carriedSets[p] & among);
            return count;
        }

        int workOf(int p, int kind) {
            return program.workOf(p, kind, sets[p]);
        }

        int costBy(int kind) {
            int sum = 0;
            for (int p = 0; p < program.parts; p++) {
                sum += workOf(p, kind) + program.carryOf(fetched[p]) + program.carryOf(returned[p]);
            }
            return sum;
        }

        int loadOf(int p) {
            int load = program.carryOf(fetched[p]);
            return p == 0 ? load : load + program.carryOf(returned[p - 1]);
        }

        int stallOf(int p, int kind) {
            if (p == 0) return loadOf(p);
            return Math.max(0, loadOf(p) - workOf(p - 1, kind));
        }

        int timeBy(int kind) {
            if (program.parts == 0) return 0;
            int sum = program.carryOf(returned[program.parts - 1]);
            for (int p = 0; p < program.parts; p++) sum += workOf(p, kind) + stallOf(p, kind);
            return sum;
        }
    }

    /**
     * Finds BEST and STILL. BEST goes from the last PART back to the first over states: a number whose digit t, to the
     * base three, tells of THING t that it is out (0), is in and was not yet written in its STAY (1), was written (2).
     * What is RETURNED is paid for when the state becomes 2, so that the end of a STAY costs nothing.
     */
    private static final class Finder {
        private static final int STATES = 243;
        private static final int SETS = 32;
        private static final int NOT_KNOWN = -1;
        /** More than any COST, and far enough from the largest int that the work of a PART may be added. */
        private static final int FAR = 1000000000;
        /** For each set the state in which its THINGS are in; the number of those that were written is added to it. */
        private static final int[] STATE_OF = {
            0, 1, 3, 4, 9, 10, 12, 13, 27, 28, 30, 31, 36, 37, 39, 40,
            81, 82, 84, 85, 90, 91, 93, 94, 108, 109, 111, 112, 117, 118, 120, 121};

        private final Program program;
        private int changesSeen = NOT_KNOWN;
        private final int[] setOf = new int[STATES];
        /** By THING: the states in which it is out, the lesser first. */
        private final int[][] outStates = new int[MOST_THINGS][STATES / 3];
        private final int[] cellsOf = new int[SETS];
        /** By PART ahead of which, by state: the least that all PARTS from there on cost. */
        private final int[][] toGo = new int[MOST_PARTS + 1][STATES];
        private final int[][] knownCost = new int[KINDS][MOST_ROOM + 1];
        private final int[][] knownRow = new int[KINDS][MOST_PARTS];
        private final int[] roomOfRow = new int[KINDS];

        Finder(Program program) {
            this.program = program;
            for (int s = 0; s < STATES; s++) setOf[s] = setOf[s / 3] << 1 | (s % 3 == 0 ? 0 : 1);
            for (int t = 0; t < MOST_THINGS; t++) listOutStates(t);
        }

        private void listOutStates(int t) {
            int count = 0;
            for (int s = 0; s < STATES; s++) {
                if (holds(setOf[s], t)) continue;
                outStates[t][count] = s;
                count++;
            }
        }

        int bestCost(int kind, int room) {
            forgetIfChanged();
            int fullest = fullestIn(room);
            if (knownCost[kind][fullest] == NOT_KNOWN) fillToGo(kind, fullest);
            return knownCost[kind][fullest];
        }

        int bestSetOf(int p, int kind, int room) {
            forgetIfChanged();
            int fullest = fullestIn(room);
            if (roomOfRow[kind] != fullest) {
                fillToGo(kind, fullest);
                readRow(kind, fullest);
            }
            return knownRow[kind][p];
        }

        int leastRoom(int kind, int v) {
            if (bestCost(kind, MOST_ROOM) > v) return NONE;
            int low = 0;
            int high = MOST_ROOM;
            for (int round = 0; round < MOST_ROOM && low < high; round++) {
                int middle = (low + high) / 2;
                if (bestCost(kind, middle) <= v) high = middle;
                else low = middle + 1;
            }
            return low;
        }

        int stillSet(int kind, int room) {
            int found = 0;
            int least = stillCost(kind, 0);
            for (int set = 1; set < program.countSets(); set++) {
                if (program.cellsOf(set) > room) continue;
                int cost = stillCost(kind, set);
                if (cost < least) {
                    least = cost;
                    found = set;
                }
            }
            return found;
        }

        int stillCost(int kind, int set) {
            if (program.parts == 0) return 0;
            int sum = program.carryOf(set);
            int written = 0;
            for (int p = 0; p < program.parts; p++) {
                sum += program.workOf(p, kind, set);
                written |= program.written[p];
            }
            return sum + program.carryOf(set & written);
        }

        private void forgetIfChanged() {
            if (changesSeen == program.changes) return;
            changesSeen = program.changes;
            for (int kind = MEAN; kind <= WORST; kind++) {
                Arrays.fill(knownCost[kind], NOT_KNOWN);
                roomOfRow[kind] = NOT_KNOWN;
            }
            for (int set = 0; set < program.countSets(); set++) cellsOf[set] = program.cellsOf(set);
        }

        /** The most cells that a set takes which fits: rooms in which the same sets fit are looked at only once. */
        private int fullestIn(int room) {
            int most = 0;
            for (int set = 0; set < program.countSets(); set++) {
                if (cellsOf[set] <= room) most = Math.max(most, cellsOf[set]);
            }
            return most;
        }

        private void fillToGo(int kind, int room) {
            int states = STATE_OF[program.countSets() - 1] * 2 + 1;
            Arrays.fill(toGo[program.parts], 0);
            for (int p = program.parts - 1; p >= 0; p--) {
                takeFitting(toGo[p + 1], toGo[p], states, room);
                for (int t = 0; t < program.things; t++) chooseFor(t, p, kind, states);
            }
            knownCost[kind][room] = toGo[0][0];
        }

        private void takeFitting(int[] next, int[] row, int states, int room) {
            for (int s = 0; s < states; s++) row[s] = cellsOf[setOf[s]] <= room ? next[s] : FAR;
        }

        /** Turns digit t of the row's states from what it is behind a PART to what it is ahead of it. */
        private void chooseFor(int t, int p, int kind, int states) {
            int[] row = toGo[p];
            int uses = program.usesOf(t, p) * program.times[kind][p];
            int slow = uses * program.settings[SLOW];
            int fast = uses * program.settings[FAST];
            int carry = program.carryOf(1 << t);
            boolean written = holds(program.written[p], t);
            int step = STATE_OF[1 << t];
            int[] outs = outStates[t];
            int count = states / 3;
            for (int i = 0; i < count; i++) {
                int s = outs[i];
                int out = row[s] + slow;
                int inWritten = row[s + 2 * step] + fast;
                int in = written ? inWritten + carry : row[s + step] + fast;
                row[s] = Math.min(out, in + carry);
                row[s + step] = Math.min(out, in);
                row[s + 2 * step] = Math.min(out, inWritten);
            }
        }

        private void readRow(int kind, int room) {
            int in = 0;
            int dirty = 0;
            for (int p = 0; p < program.parts; p++) {
                int set = firstOfLeast(p, kind, room, in, dirty);
                knownRow[kind][p] = set;
                in = set;
                dirty = (dirty | program.written[p]) & set;
            }
            roomOfRow[kind] = room;
        }

        private int firstOfLeast(int p, int kind, int room, int in, int dirty) {
            int least = toGo[p][STATE_OF[in] + STATE_OF[dirty]];
            for (int set = 0; set < program.countSets(); set++) {
                if (cellsOf[set] > room) continue;
                int dirtyBehind = (dirty | program.written[p]) & set;
                int carried = program.carryOf(set & ~in) + program.carryOf(dirtyBehind & ~dirty);
                int behind = toGo[p + 1][STATE_OF[set] + STATE_OF[dirtyBehind]];
                if (program.workOf(p, kind, set) + carried + behind == least) return set;
            }
            return 0;
        }
    }

    /** The PLACES of THE PLAN by an ORDER. */
    private static final class Shelf {
        private final Program program;
        private final Plan thePlan;
        private final int[] row = new int[MOST_THINGS];
        final int[] places = new int[MOST_THINGS];
        /** Bit c: cell c is used. */
        private long used;
        int farthest;

        Shelf(Program program, Plan thePlan) {
            this.program = program;
            this.thePlan = thePlan;
        }

        /** Gives PLACES up to those of PART last: the PART at which it is STUCK, or NONE. */
        int fillUpTo(int last, int order) {
            readOrder(order);
            used = 0;
            farthest = 0;
            int in = 0;
            for (int p = 0; p <= last; p++) {
                int set = thePlan.sets[p];
                clear(in & ~set);
                if (!placeAll(set & ~in)) return p;
                in = set;
            }
            return NONE;
        }

        /** Each first THING begins as many ORDERS as the others have among them: whole blocks of ORDERS are skipped. */
        private void readOrder(int order) {
            int left = order;
            int rest = program.countSets() - 1;
            for (int i = 0; i < program.things; i++) {
                int block = FACTORIALS[program.things - 1 - i];
                for (int t = 0; t < program.things; t++) {
                    if (!holds(rest, t)) continue;
                    if (left < block) {
                        row[i] = t;
                        rest &= ~(1 << t);
                        break;
                    }
                    left -= block;
                }
            }
        }

        private void clear(int gone) {
            for (int t = 0; t < program.things; t++) {
                if (holds(gone, t)) used &= ~cells(places[t], program.sizes[t]);
            }
        }

        private boolean placeAll(int coming) {
            for (int i = 0; i < program.things; i++) {
                int t = row[i];
                if (!holds(coming, t)) continue;
                int at = firstFree(program.sizes[t]);
                if (at == NONE) return false;
                places[t] = at;
                used |= cells(at, program.sizes[t]);
                farthest = Math.max(farthest, at + program.sizes[t]);
            }
            return true;
        }

        private int firstFree(int size) {
            for (int at = 0; at + size <= program.settings[ROOM]; at++) {
                if ((used & cells(at, size)) == 0) return at;
            }
            return NONE;
        }

        private static long cells(int at, int size) {
            return (1L << size) - 1 << at;
        }
    }
}
