import java.util.ArrayList;
import java.util.HashMap;
import java.util.List;
import java.util.Map;

/**
 * The document's terms in their plainest form, by other ways than the program's: STAYS are listed one by one, the shelf
 * is a row of cells, BEST is found by trying all PLANS or, where these are too many, by going forward from PART 0.
 */
final class PlainModel {
    static final int UNKNOWN = -1, OUTSIDE = -2, STATE = -3, FULL = -4, NONE = -9;
    private static final int MOST_TRIED = 4100;

    private final List<int[]> times = new ArrayList<>();
    private final List<Integer> sizes = new ArrayList<>();
    private final List<Integer> sets = new ArrayList<>();
    private final int[][][] uses = new int[5][10][2];
    private final int[] settings = {16, 10, 1, 2};
    private final Map<String, long[]> bestFound = new HashMap<>();

    private record Stay(int thing, int first, int last, boolean written) { }

    int call(int which, int a, int b, int c, int d) {
        switch (which) {
            case 0: return part(a, b);
            case 1: return runs(a, b, c);
            case 2: return cut();
            case 3: return thing(a);
            case 4: return uses(a, b, c, d);
            case 5: return size(a, b);
            case 6: return setting(a, b);
            case 7: return ofPart(a, b);
            case 8: return plan(a, b);
            case 9: return take(a, b);
            case 10: return noPart(a) ? UNKNOWN : sets.get(a);
            case 11: return misfit();
            case 12: return bad(a, 0, 1) ? OUTSIDE : cost(sets, a);
            case 13: return carried(a);
            case 14: return bad(a, 0, 1) || bad(b, 0, 1) || bad(c, 0, 60) ? OUTSIDE : (int) found(a, b, c)[0];
            case 15: return bestSet(a, b, c);
            case 16: return room(a, b);
            case 17: return drop(a, b);
            case 18: return place(a, b, c);
            case 19: return bad(a, 0, orders().size() - 1) ? OUTSIDE : places(a)[0][0];
            case 20: return order();
            case 21: return reach(a);
            case 22: return ofTime(a, b, c);
            case 23: return bad(a, 0, 1) ? OUTSIDE : time(a);
            default: return many(a);
        }
    }

    int parts() {
        return times.size();
    }

    int things() {
        return sizes.size();
    }

    private static boolean bad(int v, int least, int most) {
        return v < least || v > most;
    }

    private boolean noPart(int p) {
        return bad(p, 0, times.size() - 1);
    }

    private boolean noThing(int t) {
        return bad(t, 0, sizes.size() - 1);
    }

    private int[] use(int t, int p) {
        return uses[t][p];
    }

    private int part(int runs, int worst) {
        if (bad(runs, 1, 99) || bad(worst, runs, 99)) return OUTSIDE;
        if (times.size() == 10) return FULL;
        times.add(new int[] {runs, worst});
        sets.add(0);
        bestFound.clear();
        return times.size() - 1;
    }

    private int runs(int p, int runs, int worst) {
        if (noPart(p)) return UNKNOWN;
        if (bad(runs, 1, 99) || bad(worst, runs, 99)) return OUTSIDE;
        times.set(p, new int[] {runs, worst});
        bestFound.clear();
        return 1;
    }

    private int cut() {
        if (times.isEmpty()) return STATE;
        int last = times.size() - 1;
        times.remove(last);
        sets.remove(last);
        for (int t = 0; t < 5; t++) uses[t][last] = new int[2];
        bestFound.clear();
        return last;
    }

    private int thing(int size) {
        if (bad(size, 1, 20)) return OUTSIDE;
        if (sizes.size() == 5) return FULL;
        sizes.add(size);
        bestFound.clear();
        return sizes.size() - 1;
    }

    private int uses(int t, int p, int reads, int writes) {
        if (noThing(t) || noPart(p)) return UNKNOWN;
        if (bad(reads, 0, 9) || bad(writes, 0, 9)) return OUTSIDE;
        int[] was = use(t, p);
        uses[t][p] = new int[] {reads, writes};
        bestFound.clear();
        return was[0] + was[1];
    }

    private int size(int t, int v) {
        if (noThing(t)) return UNKNOWN;
        if (bad(v, 1, 20)) return OUTSIDE;
        bestFound.clear();
        return sizes.set(t, v);
    }

    private int setting(int k, int v) {
        if (bad(k, 0, 3)) return OUTSIDE;
        int[] least = {0, 1, 0, 0};
        int[] most = {60, 20, 20, 20};
        if (bad(v, least[k], most[k])) return OUTSIDE;
        int was = settings[k];
        settings[k] = v;
        if (settings[1] < settings[2]) {
            settings[k] = was;
            return OUTSIDE;
        }
        bestFound.clear();
        return was;
    }

    private int ofPart(int p, int what) {
        if (noPart(p)) return UNKNOWN;
        if (what == 0 || what == 1) return times.get(p)[what];
        for (int t = 0; t < sizes.size(); t++) {
            if (what == 10 + t) return use(t, p)[0];
            if (what == 20 + t) return use(t, p)[1];
        }
        return OUTSIDE;
    }

    private int plan(int p, int set) {
        if (noPart(p)) return UNKNOWN;
        if (bad(set, 0, (1 << sizes.size()) - 1)) return OUTSIDE;
        return sets.set(p, set);
    }

    private int take(int how, int kind) {
        if (bad(how, 0, 1) || bad(kind, 0, 1)) return OUTSIDE;
        if (times.isEmpty()) return STATE;
        long[] found = found(how, kind, settings[0]);
        for (int p = 0; p < sets.size(); p++) sets.set(p, setAt(found[1], p));
        return (int) found[0];
    }

    private int misfit() {
        for (int p = 0; p < sets.size(); p++) {
            if (cells(sets.get(p)) > settings[0]) return p;
        }
        return NONE;
    }

    private int carried(int what) {
        int count = 0;
        boolean known = what == 0 || what == 1;
        for (int t = 0; t < sizes.size(); t++) known |= what == 10 + t || what == 20 + t;
        if (!known) return OUTSIDE;
        for (Stay stay : stays(sets)) {
            if (what == 0 || what == 10 + stay.thing) count++;
            if (stay.written && (what == 1 || what == 20 + stay.thing)) count++;
        }
        return count;
    }

    private int bestSet(int p, int how, int kind) {
        if (noPart(p)) return UNKNOWN;
        if (bad(how, 0, 1) || bad(kind, 0, 1)) return OUTSIDE;
        return setAt(found(how, kind, settings[0])[1], p);
    }

    private int room(int kind, int v) {
        if (bad(kind, 0, 1) || bad(v, 0, 9999999)) return OUTSIDE;
        for (int r = 0; r <= 60; r++) {
            if (found(0, kind, r)[0] <= v) return r;
        }
        return NONE;
    }

    private int drop(int kind, int k) {
        if (bad(kind, 0, 1) || bad(k, 0, 59)) return OUTSIDE;
        int count = 0;
        for (int r = 1; r <= 60; r++) {
            if (found(0, kind, r)[0] >= found(0, kind, r - 1)[0]) continue;
            if (count == k) return r;
            count++;
        }
        return NONE;
    }

    private int place(int t, int p, int order) {
        if (noThing(t) || noPart(p)) return UNKNOWN;
        if (bad(order, 0, orders().size() - 1)) return OUTSIDE;
        int[][] places = places(order);
        if (places[0][0] != NONE && places[0][0] <= p) return NONE;
        return places[p + 1][t];
    }

    private int order() {
        for (int order = 0; order < orders().size(); order++) {
            if (places(order)[0][0] == NONE) return order;
        }
        return NONE;
    }

    private int reach(int order) {
        if (bad(order, 0, orders().size() - 1)) return OUTSIDE;
        int[][] places = places(order);
        if (places[0][0] != NONE) return NONE;
        int most = 0;
        for (int p = 0; p < times.size(); p++) {
            for (int t = 0; t < sizes.size(); t++) {
                if (places[p + 1][t] != NONE) most = Math.max(most, places[p + 1][t] + sizes.get(t));
            }
        }
        return most;
    }

    private int ofTime(int p, int kind, int what) {
        if (noPart(p)) return UNKNOWN;
        if (bad(kind, 0, 1) || bad(what, 0, 2)) return OUTSIDE;
        if (what == 0) return work(p, kind, sets.get(p));
        if (what == 1) return load(p);
        int ahead = p == 0 ? 0 : work(p - 1, kind, sets.get(p - 1));
        return Math.max(0, load(p) - ahead);
    }

    private int time(int kind) {
        int sum = 0;
        for (int p = 0; p < times.size(); p++) sum += ofTime(p, kind, 0) + ofTime(p, kind, 2);
        for (Stay stay : stays(sets)) {
            if (stay.written && stay.last == times.size() - 1) sum += settings[3] * sizes.get(stay.thing);
        }
        return sum;
    }

    private int many(int what) {
        if (what == 0) return times.size();
        if (what == 1) return sizes.size();
        if (what == 2) return stays(sets).size();
        return what == 3 ? orders().size() : OUTSIDE;
    }

    private int cells(int set) {
        int sum = 0;
        for (int t = 0; t < sizes.size(); t++) sum += (set >> t & 1) * sizes.get(t);
        return sum;
    }

    private int work(int p, int kind, int set) {
        int sum = 0;
        for (int t = 0; t < sizes.size(); t++) {
            int speed = (set >> t & 1) == 1 ? settings[2] : settings[1];
            sum += times.get(p)[kind] * speed * (use(t, p)[0] + use(t, p)[1]);
        }
        return sum;
    }

    private int load(int p) {
        int sum = 0;
        for (Stay stay : stays(sets)) {
            if (stay.first == p) sum += settings[3] * sizes.get(stay.thing);
            if (stay.written && stay.last == p - 1) sum += settings[3] * sizes.get(stay.thing);
        }
        return sum;
    }

    private List<Stay> stays(List<Integer> row) {
        List<Stay> stays = new ArrayList<>();
        for (int t = 0; t < sizes.size(); t++) {
            for (int first = 0; first < row.size(); first++) {
                if ((row.get(first) >> t & 1) == 0) continue;
                int last = first;
                while (last + 1 < row.size() && (row.get(last + 1) >> t & 1) == 1) last++;
                boolean written = false;
                for (int p = first; p <= last; p++) written |= use(t, p)[1] > 0;
                stays.add(new Stay(t, first, last, written));
                first = last;
            }
        }
        return stays;
    }

    private int cost(List<Integer> row, int kind) {
        int sum = 0;
        for (int p = 0; p < row.size(); p++) sum += work(p, kind, row.get(p));
        for (Stay stay : stays(row)) sum += settings[3] * sizes.get(stay.thing) * (stay.written ? 2 : 1);
        return sum;
    }

    /** COST, and the row of sets, five bits each, the first PART highest: rows compare as numbers. */
    private long[] found(int how, int kind, int room) {
        String key = how + "/" + kind + "/" + room;
        if (!bestFound.containsKey(key)) {
            double plans = Math.pow(1 << sizes.size(), times.size());
            long[] found = how == 1 ? still(kind, room) : plans <= MOST_TRIED ? tryAll(kind, room) : goForward(kind, room);
            bestFound.put(key, found);
        }
        return bestFound.get(key);
    }

    private int setAt(long row, int p) {
        return (int) (row >> 5 * (times.size() - 1 - p)) & 31;
    }

    private long[] still(int kind, int room) {
        long[] least = null;
        for (int set = 0; set < 1 << sizes.size(); set++) {
            if (cells(set) > room) continue;
            long row = 0;
            List<Integer> all = new ArrayList<>();
            for (int p = 0; p < times.size(); p++) {
                all.add(set);
                row = row << 5 | set;
            }
            least = lesser(least, new long[] {cost(all, kind), row});
        }
        return least;
    }

    private long[] tryAll(int kind, int room) {
        return tryFrom(new ArrayList<>(), 0, kind, room, null);
    }

    private long[] tryFrom(List<Integer> row, long number, int kind, int room, long[] least) {
        if (row.size() == times.size()) return lesser(least, new long[] {cost(row, kind), number});
        long[] found = least;
        for (int set = 0; set < 1 << sizes.size(); set++) {
            if (cells(set) > room) continue;
            row.add(set);
            found = tryFrom(row, number << 5 | set, kind, room, found);
            row.remove(row.size() - 1);
        }
        return found;
    }

    /** By what is in and what of it was written: the least, then first, row up to there; returns are paid at the end. */
    private long[] goForward(int kind, int room) {
        int all = 1 << sizes.size();
        long[][] behind = new long[all * all][];
        behind[0] = new long[] {0, 0};
        for (int p = 0; p < times.size(); p++) {
            long[][] next = new long[all * all][];
            for (int set = 0; set < all; set++) {
                if (cells(set) <= room) goInto(p, kind, set, behind, next);
            }
            behind = next;
        }
        long[] least = null;
        for (int state = 0; state < all * all; state++) {
            if (behind[state] == null) continue;
            long cost = behind[state][0] + settings[3] * cells(state % all);
            least = lesser(least, new long[] {cost, behind[state][1]});
        }
        return least;
    }

    private void goInto(int p, int kind, int set, long[][] behind, long[][] next) {
        int all = 1 << sizes.size();
        int work = work(p, kind, set);
        int mask = 0;
        for (int t = 0; t < sizes.size(); t++) mask |= use(t, p)[1] > 0 ? 1 << t : 0;
        for (int state = 0; state < all * all; state++) {
            if (behind[state] == null) continue;
            int in = state / all;
            int dirty = state % all;
            int to = set * all + ((dirty | mask) & set);
            long cost = behind[state][0] + work + settings[3] * (cells(set & ~in) + cells(dirty & ~set));
            next[to] = lesser(next[to], new long[] {cost, behind[state][1] << 5 | set});
        }
    }

    private static long[] lesser(long[] a, long[] b) {
        if (a == null) return b;
        if (b[0] != a[0]) return b[0] < a[0] ? b : a;
        return b[1] < a[1] ? b : a;
    }

    private List<List<Integer>> orders() {
        List<List<Integer>> orders = new ArrayList<>();
        addOrders(new ArrayList<>(), orders);
        return orders;
    }

    private void addOrders(List<Integer> begun, List<List<Integer>> orders) {
        if (begun.size() == sizes.size()) {
            orders.add(new ArrayList<>(begun));
            return;
        }
        for (int t = 0; t < sizes.size(); t++) {
            if (begun.contains(t)) continue;
            begun.add(t);
            addOrders(begun, orders);
            begun.remove(begun.size() - 1);
        }
    }

    /** Row 0 has the PART at which it is STUCK, or NONE; row p + 1 the PLACES in PART p, NONE for what is not IN. */
    private int[][] places(int order) {
        int[][] places = new int[times.size() + 1][5];
        int[] now = {NONE, NONE, NONE, NONE, NONE};
        places[0][0] = NONE;
        for (int p = 0; p < times.size(); p++) {
            for (int t = 0; t < sizes.size(); t++) {
                if ((sets.get(p) >> t & 1) == 0) now[t] = NONE;
            }
            for (int t : orders().get(order)) {
                if ((sets.get(p) >> t & 1) == 0 || now[t] != NONE) continue;
                now[t] = leastFree(now, sizes.get(t));
                if (now[t] == NONE) {
                    places[0][0] = p;
                    return places;
                }
            }
            places[p + 1] = now.clone();
        }
        return places;
    }

    private int leastFree(int[] now, int size) {
        boolean[] used = new boolean[settings[0]];
        for (int t = 0; t < sizes.size(); t++) {
            for (int c = 0; now[t] != NONE && c < sizes.get(t); c++) used[now[t] + c] = true;
        }
        int free = 0;
        for (int c = 0; c < used.length; c++) {
            free = used[c] ? 0 : free + 1;
            if (free == size) return c - size + 1;
        }
        return NONE;
    }
}
