import java.io.IOException;
import java.lang.reflect.Constructor;
import java.lang.reflect.Field;
import java.lang.reflect.Method;
import java.lang.reflect.Modifier;
import java.nio.file.Files;
import java.nio.file.Path;
import java.util.Set;
import java.util.TreeSet;
import java.util.regex.Matcher;
import java.util.regex.Pattern;

/** The face of the document, and those rules of LANGUAGE.md that can be seen from the class and its text. */
public final class LanguageTest {
    private static final String FACE = "part/2 runs/3 cut/0 thing/1 uses/4 size/2 setting/2 ofPart/2 plan/2 take/2 "
        + "planned/1 misfit/0 cost/1 carried/1 best/3 bestSet/3 room/2 drop/2 place/3 stuck/1 order/0 reach/1 ofTime/3 "
        + "time/1 many/1";
    private static final String[] FORBIDDEN = {"\\bthrow\\b", "\\bthrows\\b", "\\btry\\b", "\\bcatch\\b", "\\bassert\\b",
        "\\bsynchronized\\b", "->", "::", "Exact\\b", "\\bpackage\\b", "\\bSystem\\.(?!arraycopy)", "\\bRandom\\b",
        "\\bThread\\b", "\\bstatic\\s*\\{", "\\bObject\\b", "\\.(equals|hashCode|toString)\\(", "[^\\x00-\\x7f]"};
    private static int wrong = 0;

    public static void main(String[] args) throws IOException {
        face();
        nested();
        text(Files.readString(Path.of("src/main/java/FastShelf.java")));
        System.out.println(wrong == 0 ? "the rules are kept" : wrong + " rules are broken");
        if (wrong != 0) System.exit(1);
    }

    private static void rule(String what, boolean kept) {
        if (kept) return;
        wrong++;
        System.out.println("broken: " + what);
    }

    private static void face() {
        int mods = FastShelf.class.getModifiers();
        rule("public and final", Modifier.isPublic(mods) && Modifier.isFinal(mods));
        Set<String> want = new TreeSet<>(Set.of(FACE.split(" ")));
        Set<String> got = new TreeSet<>();
        for (Method m : FastShelf.class.getDeclaredMethods()) {
            if (Modifier.isPrivate(m.getModifiers())) continue;
            got.add(m.getName() + "/" + m.getParameterCount());
            rule("public, not static, int: " + m, Modifier.isPublic(m.getModifiers())
                && !Modifier.isStatic(m.getModifiers()) && m.getReturnType() == int.class);
            for (Class<?> type : m.getParameterTypes()) rule("int: " + m, type == int.class);
        }
        rule("methods: " + got, got.equals(want));
        Constructor<?>[] made = FastShelf.class.getDeclaredConstructors();
        rule("one constructor", made.length == 1 && Modifier.isPublic(made[0].getModifiers())
            && made[0].getParameterCount() == 0);
        Set<String> constants = new TreeSet<>();
        for (Field f : FastShelf.class.getDeclaredFields()) {
            if (!Modifier.isPrivate(f.getModifiers())) constants.add(f.getName());
            if (Modifier.isStatic(f.getModifiers())) rule("final: " + f, Modifier.isFinal(f.getModifiers()));
        }
        rule("constants: " + constants, constants.equals(Set.of("UNKNOWN", "OUTSIDE", "STATE", "FULL", "NONE")));
    }

    private static void nested() {
        Class<?>[] inside = FastShelf.class.getDeclaredClasses();
        rule("at most twelve classes", inside.length < 12);
        for (Class<?> c : inside) {
            rule("static: " + c, Modifier.isStatic(c.getModifiers()));
            rule("not public: " + c, !Modifier.isPublic(c.getModifiers()) && !Modifier.isProtected(c.getModifiers()));
            rule("at most twenty fields: " + c, c.getDeclaredFields().length <= 20);
            for (Method m : c.getDeclaredMethods()) checkMethod(m);
        }
        for (Method m : FastShelf.class.getDeclaredMethods()) {
            if (Modifier.isPrivate(m.getModifiers())) checkMethod(m);
        }
    }

    private static void checkMethod(Method m) {
        rule("no public method's name: " + m, !(" " + FACE).contains(" " + m.getName() + "/"));
        rule("at most seven parameters: " + m, m.getParameterCount() <= 7);
    }

    private static void text(String whole) {
        String code = whole.replaceAll("(?s)/\\*.*?\\*/", "").replaceAll("//[^\n]*", "");
        for (String word : FORBIDDEN) {
            Matcher m = Pattern.compile(word).matcher(code);
            rule("not allowed: " + word, !m.find());
        }
        Matcher imports = Pattern.compile("import ([\\w.*]+);").matcher(code);
        while (imports.find()) {
            rule("import of " + imports.group(1), Set.of("java.util.Arrays", "java.util.ArrayList", "java.util.List",
                "java.util.Iterator").contains(imports.group(1)));
        }
        makesNothing(code);
        int length = 0;
        for (String line : code.split("\n")) {
            boolean head = line.matches("\\s+[\\w\\[\\] ]+\\([^;]*\\) \\{");
            length = head && !line.matches("\\s+(if|for|while|switch|else|do)\\b.*") ? 1 : length + 1;
            boolean end = line.matches(" {4}(?: {4})?\\}");
            if (end) rule("a method of " + length + " lines", length <= 60);
        }
    }

    /** All calls of a run live in one room: what is made is made with the object. */
    private static void makesNothing(String code) {
        String calls = code.replaceAll("(?s)public FastShelf\\(\\) \\{.*?\\n    \\}", "");
        for (String line : calls.split("\n")) {
            boolean makes = line.matches(".*\\bnew\\b.*|.*\\.clone\\(.*|.*\\bcopyOf.*");
            rule("makes an object: " + line.strip(), !makes || line.matches("\\s+(private )?final [\\w\\[\\]]+ \\w+ = new .*"));
        }
    }
}
