import java.io.IOException;
import java.lang.reflect.Constructor;
import java.lang.reflect.Field;
import java.lang.reflect.Method;
import java.lang.reflect.Modifier;
import java.nio.file.Files;
import java.nio.file.Path;
import java.util.ArrayList;
import java.util.List;
import java.util.Map;
import java.util.Set;
import java.util.TreeMap;
import java.util.TreeSet;
import java.util.regex.Matcher;
import java.util.regex.Pattern;

/** The face of the document, and those rules of LANGUAGE.md that can be seen from the class and its text. */
public final class LanguageTest {
    private static final String[] FORBIDDEN = {"\\bthrow\\b", "\\bthrows\\b", "\\btry\\b", "\\bcatch\\b", "\\bassert\\b",
        "\\bsynchronized\\b", "->", "::", "Exact\\b", "\\bpackage\\b", "\\bSystem\\.(?!arraycopy)", "\\bRandom\\b",
        "\\bThread\\b", "\\bstatic\\s*\\{", "\\bObject\\b", "\\.(equals|hashCode|toString)\\(", "[^\\x00-\\x7f]"};
    private static int wrong = 0;

    public static void main(String[] args) throws ReflectiveOperationException, IOException {
        String whole = Files.readString(Path.of("src/main/java/FastShelf.java"));
        face();
        constants();
        interfaceSays(whole);
        nested();
        text(whole);
        System.out.println(wrong == 0 ? "the rules are kept" : wrong + " rules are broken");
        if (wrong != 0) System.exit(1);
    }

    private static void rule(String what, boolean kept) {
        if (kept) return;
        wrong++;
        System.out.println("broken: " + what);
    }

    private static void face() {
        int mods = FastShelf.class.getModifiers();
        rule("public and final", Modifier.isPublic(mods) && Modifier.isFinal(mods));
        Set<String> got = new TreeSet<>();
        for (Method m : FastShelf.class.getDeclaredMethods()) {
            if (Modifier.isPrivate(m.getModifiers())) continue;
            got.add(m.getName());
            rule("public, not static, int: " + m, Modifier.isPublic(m.getModifiers())
                && !Modifier.isStatic(m.getModifiers()) && m.getReturnType() == int.class);
            for (Class<?> type : m.getParameterTypes()) rule("int: " + m, type == int.class);
        }
        rule("methods: " + got, got.equals(new TreeSet<>(Face.names())));
        Constructor<?>[] made = FastShelf.class.getDeclaredConstructors();
        rule("one constructor", made.length == 1 && Modifier.isPublic(made[0].getModifiers())
            && made[0].getParameterCount() == 0);
    }

    private static void constants() throws ReflectiveOperationException {
        Map<String, Integer> got = new TreeMap<>();
        for (Field f : FastShelf.class.getDeclaredFields()) {
            int mods = f.getModifiers();
            if (Modifier.isStatic(mods)) rule("final: " + f, Modifier.isFinal(mods));
            if (Modifier.isPrivate(mods)) continue;
            boolean constant = Modifier.isPublic(mods) && Modifier.isStatic(mods) && f.getType() == int.class;
            rule("a public constant: " + f, constant);
            if (constant) got.put(f.getName(), f.getInt(null));
        }
        rule("constants: " + got, got.equals(Face.CONSTANTS));
    }

    /** The calls stand in the document's order, with what is given to them, under its headings. */
    private static void interfaceSays(String whole) {
        Matcher m = Pattern.compile("(?m)^ {4}(// ---- .*$|public int \\w+\\([^)]*\\))").matcher(whole);
        List<String> got = new ArrayList<>();
        while (m.find()) got.add(m.group(1));
        rule("the interface says " + got + ", due is " + Face.lines(), got.equals(Face.lines()));
    }

    private static void nested() {
        Class<?>[] inside = FastShelf.class.getDeclaredClasses();
        rule("at most twelve classes", inside.length < 12);
        for (Class<?> c : inside) {
            rule("static: " + c, Modifier.isStatic(c.getModifiers()));
            rule("not public: " + c, !Modifier.isPublic(c.getModifiers()) && !Modifier.isProtected(c.getModifiers()));
            rule("at most twenty fields: " + c, c.getDeclaredFields().length <= 20);
            for (Method m : c.getDeclaredMethods()) checkMethod(m);
        }
        for (Method m : FastShelf.class.getDeclaredMethods()) {
            if (Modifier.isPrivate(m.getModifiers())) checkMethod(m);
        }
    }

    private static void checkMethod(Method m) {
        rule("no public method's name: " + m, !Face.names().contains(m.getName()));
        rule("at most seven parameters: " + m, m.getParameterCount() <= 7);
    }

    private static void text(String whole) {
        String code = whole.replaceAll("(?s)/\\*.*?\\*/", "").replaceAll("//[^\n]*", "");
        for (String word : FORBIDDEN) {
            Matcher m = Pattern.compile(word).matcher(code);
            rule("not allowed: " + word, !m.find());
        }
        Matcher imports = Pattern.compile("import ([\\w.*]+);").matcher(code);
        while (imports.find()) {
            rule("import of " + imports.group(1), Set.of("java.util.Arrays", "java.util.ArrayList", "java.util.List",
                "java.util.Iterator").contains(imports.group(1)));
        }
        makesNothing(code);
        int length = 0;
        for (String line : code.split("\n")) {
            boolean head = line.matches("\\s+[\\w\\[\\] ]+\\([^;]*\\) \\{");
            length = head && !line.matches("\\s+(if|for|while|switch|else|do)\\b.*") ? 1 : length + 1;
            boolean end = line.matches(" {4}(?: {4})?\\}");
            if (end) rule("a method of " + length + " lines", length <= 60);
        }
    }

    /** All calls of a run live in one room: what is made is made with the object. */
    private static void makesNothing(String code) {
        String calls = code.replaceAll("(?s)public FastShelf\\(\\) \\{.*?\\n    \\}", "");
        for (String line : calls.split("\n")) {
            boolean makes = line.matches(".*\\bnew\\b.*|.*\\.clone\\(.*|.*\\bcopyOf.*");
            rule("makes an object: " + line.strip(), !makes || line.matches("\\s+(private )?final [\\w\\[\\]]+ \\w+ = new .*"));
        }
    }
}
