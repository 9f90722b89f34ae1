import java.util.Arrays;

/** The calls of the face by number, so that tests can make them out of tables. */
final class Calls {
    static final int PART = 0, RUNS = 1, CUT = 2, THING = 3, USES = 4, SIZE = 5, SETTING = 6, OF_PART = 7, PLAN = 8,
        TAKE = 9, PLANNED = 10, MISFIT = 11, COST = 12, CARRIED = 13, BEST = 14, BEST_SET = 15, ROOM = 16, DROP = 17,
        PLACE = 18, STUCK = 19, ORDER = 20, REACH = 21, OF_TIME = 22, TIME = 23, MANY = 24, COUNT = 25;

    private static final String[] NAMES = {"part", "runs", "cut", "thing", "uses", "size", "setting", "ofPart", "plan",
        "take", "planned", "misfit", "cost", "carried", "best", "bestSet", "room", "drop", "place", "stuck", "order",
        "reach", "ofTime", "time", "many"};
    private static final int[] HOW_MANY = {2, 3, 0, 1, 4, 2, 2, 2, 2, 2, 1, 0, 1, 1, 3, 3, 2, 2, 3, 1, 0, 1, 3, 1, 1};

    private Calls() { }

    /** How many numbers a call is given. */
    static int width(int which) {
        return HOW_MANY[which];
    }

    /** The number of a call, or -1 if none has that name. */
    static int number(String name) {
        return Arrays.asList(NAMES).indexOf(name);
    }

    static String text(int which, int... given) {
        StringBuilder text = new StringBuilder(NAMES[which]).append('(');
        for (int i = 0; i < HOW_MANY[which]; i++) text.append(i == 0 ? "" : ", ").append(given[i]);
        return text.append(')').toString();
    }

    /** Makes a call; numbers that are given beyond those that it takes are left alone. */
    static int ask(FastShelf x, int which, int... given) {
        int a = given.length > 0 ? given[0] : 0;
        int b = given.length > 1 ? given[1] : 0;
        int c = given.length > 2 ? given[2] : 0;
        int d = given.length > 3 ? given[3] : 0;
        switch (which) {
            case PART: return x.part(a, b);
            case RUNS: return x.runs(a, b, c);
            case CUT: return x.cut();
            case THING: return x.thing(a);
            case USES: return x.uses(a, b, c, d);
            case SIZE: return x.size(a, b);
            case SETTING: return x.setting(a, b);
            case OF_PART: return x.ofPart(a, b);
            case PLAN: return x.plan(a, b);
            case TAKE: return x.take(a, b);
            case PLANNED: return x.planned(a);
            case MISFIT: return x.misfit();
            case COST: return x.cost(a);
            case CARRIED: return x.carried(a);
            case BEST: return x.best(a, b, c);
            case BEST_SET: return x.bestSet(a, b, c);
            case ROOM: return x.room(a, b);
            case DROP: return x.drop(a, b);
            case PLACE: return x.place(a, b, c);
            case STUCK: return x.stuck(a);
            case ORDER: return x.order();
            case REACH: return x.reach(a);
            case OF_TIME: return x.ofTime(a, b, c);
            case TIME: return x.time(a);
            default: return x.many(a);
        }
    }
}
