import java.io.File;
import java.io.IOException;
import java.nio.file.Files;
import java.nio.file.Path;
import java.util.ArrayList;
import java.util.HashMap;
import java.util.HashSet;
import java.util.List;
import java.util.Map;
import java.util.Set;
import java.util.TreeSet;
import java.util.regex.Matcher;
import java.util.regex.Pattern;

/** README.md: the calls that it shows answer what stands beside them; its tables and lists are whole. */
public final class ReadmeTest {
    private static final int MOST_CALLS = 512;
    private static final Pattern BLOCK = Pattern.compile("(?s)```java\n(.*?)```");
    private static final Pattern NEW = Pattern.compile("FastShelf (\\w+) = new FastShelf\\(\\);");
    private static final Pattern CALL = Pattern.compile("(\\w+)\\.(\\w+)\\(([-\\d, ]*)\\); +// (-?\\d+)(?: ([A-Z]+))?: .+");
    private static final Pattern TABLE_ROW = Pattern.compile("(?m)^\\| `(\\w+\\([^`]*\\))` \\|.*\\|([^|]*)\\|$");
    private static final Pattern LISTED = Pattern.compile("(?m)^- `(\\w+)`:");

    private final String readme;
    private final Map<String, FastShelf> objects = new HashMap<>();
    private final Map<String, Integer> callsOf = new HashMap<>();
    private final Set<String> shown = new HashSet<>();

    private ReadmeTest(String readme) {
        this.readme = readme;
    }

    public static void main(String[] args) throws IOException {
        ReadmeTest test = new ReadmeTest(Files.readString(Path.of("README.md")));
        test.calls();
        test.allIsShown();
        test.constants();
        test.table();
        test.tests();
        Check.end("README.md tells what is so");
    }

    private void calls() {
        Matcher block = BLOCK.matcher(readme);
        while (block.find()) {
            for (String line : block.group(1).split("\n")) follow(line);
        }
    }

    private void follow(String line) {
        Matcher made = NEW.matcher(line);
        Matcher call = CALL.matcher(line);
        if (made.matches()) objects.put(made.group(1), new FastShelf());
        else if (call.matches() && objects.containsKey(call.group(1))) ask(line, call);
        else Check.tell("README.md shows what is neither a new object nor a call with its answer: " + line);
    }

    private void ask(String line, Matcher call) {
        int which = Calls.number(call.group(2));
        int[] given = numbers(call.group(3));
        if (which < 0 || given.length != Calls.width(which)) {
            Check.tell("README.md shows what is no call: " + line);
            return;
        }
        int answer = Integer.parseInt(call.group(4));
        Check.due("README.md: " + Calls.text(which, given), Calls.ask(objects.get(call.group(1)), which, given), answer);
        String name = call.group(5);
        boolean asNamed = name == null ? answer >= 0 : Face.CONSTANTS.getOrDefault(name, 0) == answer;
        if (!asNamed) Check.tell("README.md names the answer wrongly: " + line);
        shown.add(call.group(2));
        shown.add(name);
        if (callsOf.merge(call.group(1), 1, Integer::sum) > MOST_CALLS) Check.tell("too many calls for an object: " + line);
    }

    private static int[] numbers(String text) {
        String[] words = text.isBlank() ? new String[0] : text.split(", ");
        int[] numbers = new int[words.length];
        for (int i = 0; i < words.length; i++) numbers[i] = Integer.parseInt(words[i]);
        return numbers;
    }

    private void allIsShown() {
        for (String call : Face.names()) {
            if (!shown.contains(call)) Check.tell("README.md shows no call of " + call);
        }
        for (String constant : Face.CONSTANTS.keySet()) {
            if (!shown.contains(constant)) Check.tell("README.md shows no call that answers " + constant);
        }
    }

    private void constants() {
        for (Map.Entry<String, Integer> constant : Face.CONSTANTS.entrySet()) {
            String told = "`" + constant.getKey() + "`\\s+\\(" + constant.getValue() + "\\b";
            if (!Pattern.compile(told).matcher(readme).find()) Check.tell("README.md does not tell " + constant);
        }
    }

    /** A row for each call of the document's face, in its order, with the refusals that the call's promise names. */
    private void table() {
        List<String> want = new ArrayList<>();
        Face.refusals().forEach((call, refusals) -> want.add(call + " " + refusals));
        List<String> got = new ArrayList<>();
        Matcher row = TABLE_ROW.matcher(readme);
        while (row.find()) got.add(row.group(1) + " " + row.group(2).strip());
        if (!got.equals(want)) Check.tell("README.md's table has\n" + got + ", due is\n" + want);
    }

    private void tests() {
        Set<String> want = new TreeSet<>();
        String[] files = new File("src/test/java").list();
        if (files == null) files = new String[0];
        for (String file : files) {
            String name = file.replace(".java", "");
            if (name.endsWith("Test")) want.add(name);
            if (!readme.contains("`" + name + "`")) Check.tell("README.md does not tell of " + file);
        }
        Set<String> got = new TreeSet<>();
        Matcher listed = LISTED.matcher(readme);
        while (listed.find()) got.add(listed.group(1));
        if (!got.equals(want)) Check.tell("README.md lists the tests " + got + ", there are " + want);
    }
}
