import java.util.LinkedHashMap;
import java.util.Map;

/**
 * Calls that are taken: each changes what the document tells and nothing else, at the first and at the last PART and
 * THING, to the least and to the greatest number; and calls that only ask change nothing.
 */
public final class ChangesTest {
    private static final Integer GONE = null;

    private final int parts;
    private final int things;

    private ChangesTest(int parts, int things) {
        this.parts = parts;
        this.things = things;
    }

    public static void main(String[] args) {
        for (int[] shape : new int[][] {{1, 1}, {4, 3}, {10, 5}}) new ChangesTest(shape[0], shape[1]).run();
        new ChangesTest(9, 4).comeAndGo();
        new ChangesTest(0, 0).comeAndGo();
        askingChangesNothing();
        Check.end("each call changes what is told, and nothing else");
    }

    private void run() {
        for (int p : new int[] {0, parts - 1}) {
            changes("3 least", Map.of(of(p, 0), 1, of(p, 1), 1), 1, Calls.RUNS, p, 1, 1);
            changes("3 most", Map.of(of(p, 0), 99, of(p, 1), 99), 1, Calls.RUNS, p, 99, 99);
            for (int t : new int[] {0, things - 1}) ofBoth(t, p);
            int was = (p * 11 + 5) % (1 << things);
            changes("10 least", Map.of("planned(" + p + ")", 0), was, Calls.PLAN, p, 0);
            changes("10 most", Map.of("planned(" + p + ")", (1 << things) - 1), was, Calls.PLAN, p, (1 << things) - 1);
        }
        for (int t : new int[] {0, things - 1}) {
            changes("7 least", Map.of("SIZE of THING " + t, 1), 3 + t * 4, Calls.SIZE, t, 1);
            changes("7 most", Map.of("SIZE of THING " + t, 20), 3 + t * 4, Calls.SIZE, t, 20);
        }
        settings();
        takes();
        cuts();
    }

    private void ofBoth(int t, int p) {
        int was = (t * 3 + p * 7 + 1) % 10 + ((t + p) % 3 == 0 ? (t + p) % 9 + 1 : 0);
        int[][] given = {{0, 0}, {9, 9}, {9, 0}, {0, 9}};
        for (int[] g : given) {
            Map<String, Integer> become = Map.of(of(p, 10 + t), g[0], of(p, 20 + t), g[1]);
            changes("6", become, was, Calls.USES, t, p, g[0], g[1]);
        }
    }

    private void settings() {
        changes("8", Map.of("ROOM", 0), Samples.VARIED_ROOM, Calls.SETTING, 0, 0);
        changes("8", Map.of("ROOM", 60), Samples.VARIED_ROOM, Calls.SETTING, 0, 60);
        changes("8", Map.of("SLOW", 7), Samples.VARIED_SLOW, Calls.SETTING, 1, 7);
        changes("8", Map.of("SLOW", 20), Samples.VARIED_SLOW, Calls.SETTING, 1, 20);
        changes("8", Map.of("FAST", 0), Samples.VARIED_FAST, Calls.SETTING, 2, 0);
        changes("8", Map.of("FAST", 12), Samples.VARIED_FAST, Calls.SETTING, 2, 12);
        changes("8", Map.of("CARRY", 0), Samples.VARIED_CARRY, Calls.SETTING, 3, 0);
        changes("8", Map.of("CARRY", 20), Samples.VARIED_CARRY, Calls.SETTING, 3, 20);
    }

    private void takes() {
        for (int how = 0; how < 2; how++) {
            for (int kind = 0; kind < 2; kind++) {
                FastShelf twin = Samples.varied(parts, things);
                Map<String, Integer> become = new LinkedHashMap<>();
                for (int p = 0; p < parts; p++) become.put("planned(" + p + ")", twin.bestSet(p, how, kind));
                changes("11", become, twin.best(how, kind, Samples.VARIED_ROOM), Calls.TAKE, how, kind);
            }
        }
    }

    private void cuts() {
        Map<String, Integer> become = new LinkedHashMap<>();
        int last = parts - 1;
        become.put("many(0)", last);
        become.put("planned(" + last + ")", GONE);
        become.put(of(last, 0), GONE);
        become.put(of(last, 1), GONE);
        for (int t = 0; t < things; t++) {
            become.put(of(last, 10 + t), GONE);
            become.put(of(last, 20 + t), GONE);
        }
        changes("4", become, last, Calls.CUT);
    }

    private void comeAndGo() {
        Map<String, Integer> part = new LinkedHashMap<>();
        part.put("many(0)", parts + 1);
        part.put("planned(" + parts + ")", 0);
        part.put(of(parts, 0), 1);
        part.put(of(parts, 1), 99);
        for (int t = 0; t < things; t++) {
            part.put(of(parts, 10 + t), 0);
            part.put(of(parts, 20 + t), 0);
        }
        changes("2", part, parts, Calls.PART, 1, 99);
        Map<String, Integer> thing = new LinkedHashMap<>();
        thing.put("many(1)", things + 1);
        thing.put("SIZE of THING " + things, 20);
        for (int p = 0; p < parts; p++) {
            thing.put(of(p, 10 + things), 0);
            thing.put(of(p, 20 + things), 0);
        }
        changes("5", thing, things, Calls.THING, 20);
    }

    private static String of(int p, int what) {
        return Calls.text(Calls.OF_PART, p, what);
    }

    private void changes(String promise, Map<String, Integer> become, int answer, int which, int... given) {
        String text = promise + " " + Calls.text(which, given) + " with " + parts + " PARTS, " + things + " THINGS";
        Map<String, Integer> want = Look.atState(Samples.varied(parts, things));
        for (Map.Entry<String, Integer> entry : become.entrySet()) {
            if (entry.getValue() == GONE) want.remove(entry.getKey());
            else want.put(entry.getKey(), entry.getValue());
        }
        FastShelf x = Samples.varied(parts, things);
        Check.due(text, Calls.ask(x, which, given), answer);
        Map<String, Integer> got = Look.atState(x);
        if (!got.equals(want)) Check.tell(text + ": the state is " + got + ", due is " + want);
    }

    private static void askingChangesNothing() {
        for (int[] shape : new int[][] {{0, 0}, {0, 5}, {10, 0}, {1, 1}, {10, 5}}) {
            String text = "asking with " + shape[0] + " PARTS, " + shape[1] + " THINGS";
            Map<String, Integer> untouched = Look.atState(Samples.varied(shape[0], shape[1]));
            FastShelf x = Samples.varied(shape[0], shape[1]);
            Map<String, Integer> first = Look.atQuestions(x);
            if (!Look.atQuestions(x).equals(first)) Check.tell(text + " twice answers otherwise");
            if (!Look.atState(x).equals(untouched)) Check.tell(text + " changed something");
        }
    }
}
