import java.util.ArrayList;
import java.util.LinkedHashSet;
import java.util.List;
import java.util.Map;
import java.util.Set;

/**
 * REFUSALS: each call with every mix of numbers that are taken and that are not (the ones at each bound, the ones just
 * beyond, the least and the greatest int), without PARTS, without THINGS, with some and with all of them. It answers
 * the first refusal that fits, and the object is as it was.
 */
public final class RefusalsTest {
    private static final int UNKNOWN = -1, OUTSIDE = -2, STATE = -3, FULL = -4, TAKEN = 0;
    private static final int LOW = Integer.MIN_VALUE, HIGH = Integer.MAX_VALUE;
    /** Building, refused calls and looking together stay within the 512 calls of an object. */
    private static final int CALLS_AT_ONCE = 100;
    private static final int[][] SHAPES = {{0, 0}, {0, 1}, {0, 5}, {1, 0}, {10, 0}, {1, 1}, {3, 2}, {9, 4}, {10, 5}};
    private static final int[] ORDERS = {1, 1, 2, 6, 24, 120};

    private final int parts;
    private final int things;
    private final Map<String, Integer> asItWas;
    private final List<int[]> refused = new ArrayList<>();
    private int which;

    private RefusalsTest(int parts, int things) {
        this.parts = parts;
        this.things = things;
        asItWas = Look.atAll(begin());
    }

    public static void main(String[] args) {
        int count = 0;
        for (int[] shape : SHAPES) count += new RefusalsTest(shape[0], shape[1]).run();
        Check.end(count + " refused calls are answered as told and change nothing");
    }

    /** What may be kept from one call to the next is asked for once, so that a refused call could spoil it. */
    private FastShelf begin() {
        FastShelf x = Samples.varied(parts, things);
        for (int kind = 0; kind < 2; kind++) {
            x.best(0, kind, 60);
            x.drop(kind, 0);
            x.bestSet(0, 0, kind);
            x.time(kind);
        }
        x.reach(0);
        return x;
    }

    private int run() {
        int count = 0;
        for (which = 0; which < Calls.COUNT; which++) {
            refused.clear();
            mix(new int[Calls.width(which)], 0);
            for (int from = 0; from < refused.size(); from += CALLS_AT_ONCE) {
                refuse(refused.subList(from, Math.min(refused.size(), from + CALLS_AT_ONCE)));
            }
            count += refused.size();
        }
        return count;
    }

    private void mix(int[] given, int at) {
        if (at == given.length) {
            if (due(given) != TAKEN) refused.add(given.clone());
            return;
        }
        for (int v : values(at)) {
            given[at] = v;
            mix(given, at + 1);
        }
    }

    private void refuse(List<int[]> calls) {
        FastShelf x = begin();
        for (int[] given : calls) {
            String text = Calls.text(which, given) + " with " + parts + " PARTS, " + things + " THINGS";
            Check.due(text, Calls.ask(x, which, given), due(given));
        }
        if (Look.atAll(x).equals(asItWas)) return;
        for (int[] given : calls) nameCulprit(given);
        Check.tell("refused calls of " + Calls.text(which, calls.get(0)) + " and its like changed something");
    }

    private void nameCulprit(int[] given) {
        FastShelf x = begin();
        Calls.ask(x, which, given);
        if (!Look.atAll(x).equals(asItWas)) Check.tell("refused, but changed something: " + Calls.text(which, given));
    }

    private boolean noPart(int p) {
        return p < 0 || p >= parts;
    }

    private boolean noThing(int t) {
        return t < 0 || t >= things;
    }

    private static boolean beyond(int v, int least, int most) {
        return v < least || v > most;
    }

    private boolean beyondOrders(int order) {
        return beyond(order, 0, ORDERS[things] - 1);
    }

    private boolean beyondWhat(int what) {
        return beyond(what, 0, 1) && beyond(what, 10, 9 + things) && beyond(what, 20, 19 + things);
    }

    private static boolean beyondRuns(int runs, int worst) {
        return beyond(runs, 1, 99) || beyond(worst, runs, 99);
    }

    private static boolean beyondSetting(int k, int v) {
        switch (k) {
            case 0: return beyond(v, 0, 60);
            case 1: return beyond(v, 1, 20) || v < Samples.VARIED_FAST;
            case 2: return beyond(v, 0, Samples.VARIED_SLOW);
            case 3: return beyond(v, 0, 20);
            default: return true;
        }
    }

    private int due(int[] given) {
        if (unknown(given)) return UNKNOWN;
        if (outside(given)) return OUTSIDE;
        if ((which == Calls.CUT || which == Calls.TAKE) && parts == 0) return STATE;
        if (which == Calls.PART && parts == 10) return FULL;
        if (which == Calls.THING && things == 5) return FULL;
        return TAKEN;
    }

    private boolean unknown(int[] given) {
        switch (which) {
            case Calls.RUNS: case Calls.OF_PART: case Calls.PLAN: case Calls.PLANNED: case Calls.BEST_SET:
            case Calls.OF_TIME: return noPart(given[0]);
            case Calls.SIZE: return noThing(given[0]);
            case Calls.USES: case Calls.PLACE: return noThing(given[0]) || noPart(given[1]);
            default: return false;
        }
    }

    private boolean outside(int[] given) {
        switch (which) {
            case Calls.PART: return beyondRuns(given[0], given[1]);
            case Calls.RUNS: return beyondRuns(given[1], given[2]);
            case Calls.THING: return beyond(given[0], 1, 20);
            case Calls.USES: return beyond(given[2], 0, 9) || beyond(given[3], 0, 9);
            case Calls.SIZE: return beyond(given[1], 1, 20);
            case Calls.SETTING: return beyondSetting(given[0], given[1]);
            case Calls.OF_PART: return beyondWhat(given[1]);
            case Calls.PLAN: return beyond(given[1], 0, (1 << things) - 1);
            case Calls.TAKE: return beyond(given[0], 0, 1) || beyond(given[1], 0, 1);
            case Calls.COST: case Calls.TIME: return beyond(given[0], 0, 1);
            case Calls.CARRIED: return beyondWhat(given[0]);
            case Calls.BEST: return beyond(given[0], 0, 1) || beyond(given[1], 0, 1) || beyond(given[2], 0, 60);
            case Calls.BEST_SET: return beyond(given[1], 0, 1) || beyond(given[2], 0, 1);
            case Calls.ROOM: return beyond(given[0], 0, 1) || beyond(given[1], 0, 9999999);
            case Calls.DROP: return beyond(given[0], 0, 1) || beyond(given[1], 0, 59);
            case Calls.PLACE: return beyondOrders(given[2]);
            case Calls.STUCK: case Calls.REACH: return beyondOrders(given[0]);
            case Calls.OF_TIME: return beyond(given[1], 0, 1) || beyond(given[2], 0, 2);
            case Calls.MANY: return beyond(given[0], 0, 3);
            default: return false;
        }
    }

    /** What is given as the number at this place of the call. */
    private Set<Integer> values(int at) {
        if (which == Calls.PART) return around(1, 99, 50);
        if (which == Calls.RUNS && at > 0) return around(1, 99, 50);
        if (which == Calls.THING) return around(1, 20);
        if (which == Calls.USES && at > 1) return around(0, 9);
        if (which == Calls.SIZE && at == 1) return around(1, 20);
        if (which == Calls.SETTING && at == 0) return around(0, 3, 1, 2);
        if (which == Calls.SETTING) return around(Samples.VARIED_FAST, Samples.VARIED_SLOW, -1, 0, 1, 20, 21, 60, 61);
        if (which == Calls.OF_PART && at == 1 || which == Calls.CARRIED) return whats();
        if (which == Calls.PLAN && at == 1) return around(0, (1 << things) - 1, 31, 32, 64, -32);
        if (which == Calls.BEST && at == 2) return around(0, 60);
        if (which == Calls.ROOM && at == 1) return around(0, 9999999);
        if (which == Calls.DROP && at == 1) return around(0, 59);
        if (which == Calls.PLACE && at == 2 || which == Calls.STUCK || which == Calls.REACH) {
            return around(0, ORDERS[things] - 1, 119, 120);
        }
        if (which == Calls.OF_TIME && at == 2) return around(0, 2);
        if (which == Calls.MANY) return around(0, 3);
        return numbersOf(at);
    }

    private Set<Integer> numbersOf(int at) {
        boolean thingFirst = which == Calls.USES || which == Calls.PLACE || which == Calls.SIZE;
        boolean partFirst = which == Calls.RUNS || which == Calls.OF_PART || which == Calls.PLAN
            || which == Calls.PLANNED || which == Calls.BEST_SET || which == Calls.OF_TIME;
        if (thingFirst && at == 0) return around(0, things - 1, 4, 5);
        if (thingFirst && at == 1 || partFirst && at == 0) return around(0, parts - 1, 9, 10);
        return around(0, 1);
    }

    private Set<Integer> whats() {
        Set<Integer> whats = around(0, 1, 9, 14, 15, 19, 24, 25, 29, 30, 31);
        whats.addAll(around(10, 9 + things));
        whats.addAll(around(20, 19 + things));
        return whats;
    }

    /** 256 and 65536 are 0 to who looks at the low bits alone; near the least int a difference wraps around. */
    private static Set<Integer> around(int least, int most, int... more) {
        Set<Integer> values = new LinkedHashSet<>();
        for (int v : new int[] {least - 1, least, most, most + 1, LOW, LOW + 10, 256, 65536, HIGH}) values.add(v);
        for (int v : more) values.add(v);
        return values;
    }
}
