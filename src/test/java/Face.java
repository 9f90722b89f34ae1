import java.util.ArrayList;
import java.util.LinkedHashMap;
import java.util.List;
import java.util.Map;

/** The document's face, copied from it: constants, headings, calls, and the refusals that each call's promise names. */
final class Face {
    static final Map<String, Integer> CONSTANTS = Map.of("UNKNOWN", -1, "OUTSIDE", -2, "STATE", -3, "FULL", -4, "NONE", -9);

    private static final String HEADING = "----";
    private static final String[] ROWS = {
        "---- 1 parts, things",
        "part(int runs, int worst): OUTSIDE, FULL",
        "runs(int p, int runs, int worst): UNKNOWN, OUTSIDE",
        "cut(): STATE",
        "thing(int size): OUTSIDE, FULL",
        "uses(int t, int p, int reads, int writes): UNKNOWN, OUTSIDE",
        "size(int t, int v): UNKNOWN, OUTSIDE",
        "setting(int k, int v): OUTSIDE",
        "ofPart(int p, int what): UNKNOWN, OUTSIDE",
        "---- 2 plans: one that is told by hand, the best",
        "plan(int p, int set): UNKNOWN, OUTSIDE",
        "take(int how, int kind): OUTSIDE, STATE",
        "planned(int p): UNKNOWN",
        "misfit(): ",
        "cost(int kind): OUTSIDE",
        "carried(int what): OUTSIDE",
        "best(int how, int kind, int r): OUTSIDE",
        "bestSet(int p, int how, int kind): UNKNOWN, OUTSIDE",
        "room(int kind, int v): OUTSIDE",
        "drop(int kind, int k): OUTSIDE",
        "---- 3 places of THE PLAN",
        "place(int t, int p, int order): UNKNOWN, OUTSIDE",
        "stuck(int order): OUTSIDE",
        "order(): ",
        "reach(int order): OUTSIDE",
        "---- 4 time of THE PLAN",
        "ofTime(int p, int kind, int what): UNKNOWN, OUTSIDE",
        "time(int kind): OUTSIDE",
        "many(int what): OUTSIDE"};

    private Face() { }

    /** Headings and calls, as "// ---- 1 parts, things" and "public int part(int runs, int worst)". */
    static List<String> lines() {
        List<String> lines = new ArrayList<>();
        for (String row : ROWS) lines.add(isHeading(row) ? "// " + row : "public int " + row.substring(0, row.indexOf(": ")));
        return lines;
    }

    /** The refusals by call, a call being "part(runs, worst)". */
    static Map<String, String> refusals() {
        Map<String, String> refusals = new LinkedHashMap<>();
        for (String row : ROWS) {
            int end = row.indexOf(": ");
            if (!isHeading(row)) refusals.put(row.substring(0, end).replace("int ", ""), row.substring(end + 2));
        }
        return refusals;
    }

    static List<String> names() {
        List<String> names = new ArrayList<>();
        for (String call : refusals().keySet()) names.add(call.substring(0, call.indexOf('(')));
        return names;
    }

    private static boolean isHeading(String row) {
        return row.startsWith(HEADING);
    }
}
