import java.nio.charset.StandardCharsets;
import java.nio.file.Files;
import java.nio.file.Path;

/** What README.md shows of the class: its example, line by line, and what refused calls answer. */
public final class ReadmeTest {
    private static final Path README = Path.of("README.md");
    private static final Path SELF = Path.of("src/test/java/ReadmeTest.java");
    private static int wrong = 0;

    private static void due(String what, long got, long want) {
        if (got == want) return;
        wrong++;
        System.out.println(what + " is " + got + ", due is " + want);
    }

    public static void main(String[] args) throws Exception {
        example();
        refusals();
        noRefusals();
        exampleIsAsTold();
        System.out.println(wrong == 0 ? "the readme is right" : wrong + " answers are not as due");
        if (wrong != 0) System.exit(1);
    }

    private static void example() {
        LitWindows wall = new LitWindows();
        int t = wall.tenant(0, 2, 10);
        int a = wall.letter(0b101_101_101_101);
        int b = wall.letter(0b111_101_101_111);
        for (int y = 0; y < 4; y++) for (int x = 0; x < 7; x++) wall.has(12 * y + x, t);
        int pains = wall.least(12, 0);
        int second = wall.box(12, 0, 1, 0);
        int made = wall.box(12, 0, 1, 1);
        int pay = wall.bought(12, 0, 0);
        int lamps = wall.two(1, 0, 2, 1);
        int once = wall.lit(0, 0, true);
        int twice = wall.lit(0, 0, true);
        int wide = wall.wall(13, 5);
        int outside = wall.has(60, t);
        int bads = wall.status(0);
        due("t", t, 0);
        due("a", a, 0);
        due("b", b, 1);
        due("pains", pains, 36);
        due("second", second, 4);
        due("made", made, 3951);
        due("pay", pay, 10);
        due("lamps", lamps, 2);
        due("once", once, 1);
        due("twice", twice, -3);
        due("wide", wide, -2);
        due("outside", outside, -10);
        due("bads", bads, 2);
    }

    private static void refusals() {
        LitWindows x = new LitWindows();
        due("BAD", LitWindows.BAD, -2);
        due("NO", LitWindows.NO, -3);
        due("FULL", LitWindows.FULL, -4);
        due("from an image that is none", x.from(0), -3);
        for (int i = 0; i < 6; i++) x.tenant(0, 0, 0);
        due("a seventh tenant", x.tenant(0, 0, 0), -4);
        due("a bad seventh tenant", x.tenant(6, 0, 0), -2);
        for (int i = 0; i < 6; i++) x.letter(i);
        due("a seventh letter", x.letter(6), -4);
        for (int i = 0; i < 6; i++) x.reading(0, 1, 0);
        due("a seventh reading", x.reading(0, 1, 0), -4);
        due("dead lamps", x.dead(1), 1);
        x.unread();
        x.reading(0, 0, 1);
        due("no dead lamps", x.dead(1), -3);
        for (int i = 0; i < 25; i++) x.type(0, 8);
        due("more bytes", x.type(0, 1), -4);
        due("refuses", x.refuses(6, 0), -10);
        due("has", x.has(0, 6), -10);
        due("box", x.box(7, 0, 0, 0), -10);
        due("status", x.status(3), -1);
        due("how many were bad", x.status(0), 5);
        due("how many were no", x.status(1), 2);
        due("how many were full", x.status(2), 4);
    }

    private static void noRefusals() {
        LitWindows x = new LitWindows();
        x.letter(1);
        x.letter(2);
        due("a word that can not be said", x.least(1, 0), -1);
        due("its box", x.box(1, 0, 0, 0), -5);
        x.type('w', 1);
        due("a fault", x.read(), -10);
        x.type(('a' << 16) + ('l' << 8) + 'l', 3);
        due("a fault at the end", x.read(), -14);
        x.type(('1' << 24) + (' ' << 16) + ('1' << 8) + ';', 4);
        due("an item refused", x.read(), -1000);
        due("letters are still there", x.count(3), 2);
        for (int what = 0; what < 3; what++) due("status " + what, x.status(what), 0);
    }

    // Each line of the readme's example must stand in this test, so that both tell the same.
    private static void exampleIsAsTold() throws Exception {
        String readme = Files.readString(README, StandardCharsets.UTF_8);
        String self = Files.readString(SELF, StandardCharsets.UTF_8);
        int from = readme.indexOf("```java");
        int to = readme.indexOf("```", from + 3);
        due("the example is there", from >= 0 && to > from ? 1 : 0, 1);
        for (String line : readme.substring(from + 7, to).split("\n")) {
            exampleLine(line, self);
        }
        due("how many calls an object is used for is told", readme.contains("512 calls") ? 1 : 0, 1);
    }

    private static void exampleLine(String line, String self) {
        String code = line.replaceAll("//.*", "").trim();
        if (code.isEmpty()) return;
        due(code + ": in the test", self.contains(" " + code + "\n") ? 1 : 0, 1);
        if (!line.contains("//")) return;
        String name = code.replaceAll("^int (\\w+) = .*", "$1");
        String answer = line.replaceAll(".*// (-?\\d+).*", "$1");
        due(name + ": its answer in the test", self.contains("due(\"" + name + "\", " + name + ", " + answer + ");") ? 1 : 0, 1);
    }
}
