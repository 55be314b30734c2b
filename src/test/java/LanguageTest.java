import java.lang.reflect.Field;
import java.lang.reflect.Method;
import java.lang.reflect.Modifier;
import java.nio.charset.StandardCharsets;
import java.nio.file.Files;
import java.nio.file.Path;
import java.util.HashSet;
import java.util.Set;
import java.util.TreeSet;

/** The rules of LANGUAGE.md that can be seen by reading the program and its classes. */
public final class LanguageTest {
    private static final Path PROGRAM = Path.of("src/main/java/LitWindows.java");
    private static int wrong = 0;

    private static void rule(int number, boolean kept, String what) {
        if (kept) return;
        wrong++;
        System.out.println("rule " + number + ": " + what);
    }

    public static void main(String[] args) throws Exception {
        String source = Files.readString(PROGRAM, StandardCharsets.UTF_8);
        String code = source.replaceAll("(?s)/\\*.*?\\*/", "").replaceAll("//[^\n]*", "");
        words(code);
        objects(code);
        face();
        methodLengths(code);
        Class<?>[] inside = LitWindows.class.getDeclaredClasses();
        rule(11, inside.length <= 11, "too many classes");
        shape(LitWindows.class);
        for (Class<?> c : inside) shape(c);
        System.out.println(wrong == 0 ? "the rules are kept" : wrong + " rules are broken");
        if (wrong != 0) System.exit(1);
    }

    private static void words(String code) {
        for (String word : new String[] {"throw", "throws", "try", "catch", "finally", "synchronized", "assert", "import", "package",
                "Object", "Exception", "equals", "hashCode", "toString", "Exact", "float", "var", "yield"}) {
            rule(6, !code.matches("(?s).*\\b" + word + "\\b.*"), "the word " + word);
        }
        for (String sign : new String[] {"->", "::", "static {", "@", "Exact("}) rule(6, !code.contains(sign), "the sign " + sign);
        for (char c : code.toCharArray()) rule(4, c == '\n' || c >= 32 && c < 127, "the sign " + (int) c);
    }

    // The room is shared by all calls: what is made is made with the object that keeps it.
    private static void objects(String code) {
        for (String line : code.split("\n")) {
            boolean kept = line.matches("\\s*(private )?final [\\w\\[\\]]+ \\w+ = new [^;]*;");
            rule(12, !line.matches(".*\\bnew\\b.*") || kept, "an object made in a call: " + line.trim());
        }
    }

    private static void methodLengths(String code) {
        int first = 0, at = 0;
        for (String line : code.split("\n")) {
            at++;
            if (line.matches(" {4}( {4})?\\S.*\\) \\{")) first = at;
            if (line.matches(" {4}( {4})?\\}") && first > 0) {
                rule(11, at - first <= 60, "a method of " + (at - first) + " lines up to line " + at);
                first = 0;
            }
        }
    }

    private static void face() {
        Set<String> open = new TreeSet<>();
        for (Method m : LitWindows.class.getDeclaredMethods()) if (!Modifier.isPrivate(m.getModifiers())) open.add(m.getName());
        Set<String> due = new TreeSet<>(Set.of(("wall tenant refuses has letter lit slack pains type clear read reads shape says least box two "
            + "bought can bars reading unread dead unlike image from status count digest").split(" ")));
        rule(1, open.equals(due), "the face is " + open);
        for (Field f : LitWindows.class.getDeclaredFields()) {
            boolean constant = Set.of("NONE", "BAD", "NO", "FULL").contains(f.getName());
            rule(1, constant == Modifier.isPublic(f.getModifiers()) && (constant || Modifier.isPrivate(f.getModifiers())), "field " + f);
        }
    }

    private static void shape(Class<?> c) {
        rule(2, c == LitWindows.class || Modifier.isStatic(c.getModifiers()), c + " is not static");
        Set<String> open = new HashSet<>();
        for (Method m : LitWindows.class.getMethods()) open.add(m.getName());
        int fields = 0;
        for (Field f : c.getDeclaredFields()) {
            if (!Modifier.isStatic(f.getModifiers())) fields++;
            else rule(5, Modifier.isFinal(f.getModifiers()), f + " is not final");
        }
        rule(11, fields <= 20, c + " has " + fields + " fields");
        for (Method m : c.getDeclaredMethods()) {
            rule(11, m.getParameterCount() <= 7, m + " takes too many");
            boolean own = c == LitWindows.class && Modifier.isPublic(m.getModifiers());
            rule(1, own || !open.contains(m.getName()), m + " bears a name of the face");
        }
    }
}
