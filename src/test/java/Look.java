import java.util.LinkedHashMap;
import java.util.Map;

/** What an object answers, by call. SIZE and SETTINGS can only be asked by changing them: they are asked last. */
final class Look {
    private final FastShelf x;
    private final Map<String, Integer> answers = new LinkedHashMap<>();

    private Look(FastShelf x) {
        this.x = x;
    }

    /** All that has been told to the object; some 140 calls with all PARTS and THINGS there; it uses the object up. */
    static Map<String, Integer> atState(FastShelf x) {
        Look look = new Look(x);
        look.state();
        look.useUp();
        return look.answers;
    }

    /** All that has been told to it and much of what follows from it, some 240 calls; it uses the object up. */
    static Map<String, Integer> atAll(FastShelf x) {
        Look look = new Look(x);
        look.state();
        look.questions();
        look.useUp();
        return look.answers;
    }

    /** Only calls that change nothing, some 100. */
    static Map<String, Integer> atQuestions(FastShelf x) {
        Look look = new Look(x);
        look.questions();
        return look.answers;
    }

    private void ask(int which, int... given) {
        answers.put(Calls.text(which, given), Calls.ask(x, which, given));
    }

    private void state() {
        int parts = x.many(0);
        int things = x.many(1);
        ask(Calls.MANY, 0);
        ask(Calls.MANY, 1);
        for (int p = 0; p < parts; p++) {
            ask(Calls.PLANNED, p);
            ask(Calls.OF_PART, p, 0);
            ask(Calls.OF_PART, p, 1);
            for (int t = 0; t < things; t++) {
                ask(Calls.OF_PART, p, 10 + t);
                ask(Calls.OF_PART, p, 20 + t);
            }
        }
    }

    private void questions() {
        int parts = x.many(0);
        int things = x.many(1);
        int orders = x.many(3);
        ask(Calls.MANY, 2);
        ask(Calls.MANY, 3);
        ask(Calls.MISFIT);
        ask(Calls.ORDER);
        for (int order = 0; order < orders; order += Math.max(1, orders / 3)) {
            ask(Calls.STUCK, order);
            ask(Calls.REACH, order);
        }
        for (int kind = 0; kind < 2; kind++) ofKind(kind, parts);
        ask(Calls.CARRIED, 0);
        ask(Calls.CARRIED, 1);
        for (int t = 0; t < things; t++) {
            ask(Calls.CARRIED, 10 + t);
            ask(Calls.CARRIED, 20 + t);
            if (parts > 0) ask(Calls.PLACE, t, parts - 1, orders - 1);
        }
    }

    private void ofKind(int kind, int parts) {
        ask(Calls.COST, kind);
        ask(Calls.TIME, kind);
        ask(Calls.ROOM, kind, 999);
        ask(Calls.DROP, kind, 1);
        for (int how = 0; how < 2; how++) {
            ask(Calls.BEST, how, kind, 9);
            ask(Calls.BEST, how, kind, 60);
            for (int p = 0; p < parts; p += 3) ask(Calls.BEST_SET, p, how, kind);
        }
        for (int p = 0; p < parts; p += 2) {
            for (int what = 0; what < 3; what++) ask(Calls.OF_TIME, p, kind, what);
        }
    }

    private void useUp() {
        int things = x.many(1);
        for (int t = 0; t < things; t++) answers.put("SIZE of THING " + t, x.size(t, 1));
        answers.put("ROOM", x.setting(0, 0));
        answers.put("CARRY", x.setting(3, 0));
        // FAST goes first, as SLOW can't be less than it.
        answers.put("FAST", x.setting(2, 0));
        answers.put("SLOW", x.setting(1, 1));
    }
}
