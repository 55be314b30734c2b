/**
 * The boundary cases of THE TEXT and THE PLAN: bytes and their order, 200 at most, each TOKEN and what can not stand
 * there, a TEXT that ends too early, each ITEM just inside and just outside its bounds.
 */
public final class PlanBoundsTest {
    private static final int NONE = -1, BAD = -2, NO = -3, FULL = -4;
    private static final String[] WORDS = {"wall", "tenant", "has", "letter", "lit", "slack"};
    private static final int[] NUMBERS = {2, 3, 3, 1, 3, 1};
    private static int wrong = 0;

    private static void due(String what, long got, long want) {
        if (got == want) return;
        wrong++;
        System.out.println(what + " answered " + got + ", due is " + want);
    }

    public static void main(String[] args) {
        bytesOfANumber();
        upToTwoHundredBytes();
        emptyAndBlankTexts();
        mostItems();
        cutAnywhere();
        cutAnywhereBehindBlanks();
        everyByteAlone();
        everyByteBetween();
        figuresOneToFour();
        wordsThatAreNone();
        tokensInAnothersPlace();
        blanksWhereNeeded();
        faultsAtTheLastByte();
        itemsAtTheirBounds();
        itemsPastTheirBounds();
        itemsByTheWallBefore();
        firstItemRefused();
        toldAnew();
        toldJustAsByCalls();
        textAndImagesStay();
        System.out.println(wrong == 0 ? "plans keep their bounds" : wrong + " answers are not as due");
        if (wrong != 0) System.exit(1);
    }

    private static void type(LitWindows x, String text) {
        for (int i = 0; i < text.length(); i++) x.type(text.charAt(i), 1);
    }

    private static int plan(LitWindows x, String text) {
        x.clear();
        type(x, text);
        return x.read();
    }

    private static void reads(String text, int want) {
        due("read() of '" + text + "'", plan(new LitWindows(), text), want);
    }

    private static void faultAt(String text, int place) {
        reads(text, -10 - place);
    }

    private static void refusedAt(String text, int item) {
        reads(text, -1000 - item);
    }

    // What stands above the lowest n bytes is not for THE TEXT.
    private static void bytesOfANumber() {
        String text = "slack 3;";
        for (int n = 1; n <= 8; n++) {
            for (long above : new long[] {0, -1, 0x3b3b3b3b3b3b3b3bL}) {
                LitWindows x = new LitWindows();
                for (int at = 0; at < 8; at += n) {
                    int many = Math.min(n, 8 - at);
                    long v = above;
                    for (int k = 0; k < many; k++) v = v << 8 | text.charAt(at + k);
                    due("type(" + v + ", " + many + ")", x.type(v, many), at + many);
                }
                due("read() of " + n + " at a time", x.read(), 1);
                due("slack(0)", x.slack(0), 3);
            }
        }
        LitWindows x = new LitWindows();
        due("type(0, 8)", x.type(0, 8), 8);
        due("read() of bytes 0", x.read(), -10);
        due("type(-1, 8)", x.type(-1, 8), 16);
        due("type(MIN, 1): its lowest is 0", x.type(Long.MIN_VALUE, 1), 17);
        due("type(1, 0)", x.type(1, 0), BAD);
        due("type(1, 9)", x.type(1, 9), BAD);
        due("clear()", x.clear(), 17);
    }

    private static void upToTwoHundredBytes() {
        for (int n = 1; n <= 8; n++) {
            LitWindows x = new LitWindows();
            int had = 0;
            while (had + n <= 200) {
                had += n;
                due("type(.., " + n + ")", x.type(0x2020202020202020L, n), had);
            }
            due("type(.., " + n + ") past 200", x.type(0, n), FULL);
            due("count(5)", x.count(5), had);
            if (had < 200) due("type(.., " + (200 - had) + ") up to 200", x.type(0x2020202020202020L, 200 - had), 200);
            due("type(.., 1) past 200", x.type(0, 1), FULL);
            due("read() of 200 blanks", x.read(), 0);
            due("clear() of 200", x.clear(), 200);
            due("clear() of none", x.clear(), 0);
            due("type(.., 8) again", x.type(0, 8), 8);
        }
    }

    private static void emptyAndBlankTexts() {
        LitWindows x = new LitWindows();
        due("read(), never typed", x.read(), 0);
        for (int blanks = 1; blanks <= 200; blanks++) {
            x.type(' ', 1);
            due("read() of " + blanks + " blanks", x.read(), 0);
        }
        x.clear();
        x.wall(3, 4);
        x.tenant(0, 0, 0);
        x.letter(1);
        x.reading(0, 0, 0);
        due("read(), cleared", x.read(), 0);
        due("digest(): none but what is at first", x.digest(), new LitWindows().digest());
    }

    private static void mostItems() {
        LitWindows x = new LitWindows();
        due("read() of 28 items and 4 blanks", plan(x, "slack1;".repeat(28) + "    "), 28);
        due("count(5)", x.count(5), 200);
        faultAt("slack1;".repeat(28) + "slac", 196);
        faultAt("slack1;".repeat(28) + "lit", 199);
        faultAt("slack1;".repeat(27) + "slack 12345", 195);
        faultAt("slack1;".repeat(27) + " wall 12 4 ", 200);
        faultAt("slack1;".repeat(27) + "slack000004", 194);
        refusedAt("slack1;".repeat(27) + "slack   4; ", 27);
        reads("letter" + " ".repeat(192) + "7;", 1);
        reads(" ".repeat(192) + "letter7;", 1);
    }

    private static final String ALL_ITEMS = "wall 8 5;tenant 1 2 33;has 0 7 4;letter 4095;lit 3 0 1;slack 2;";

    /** What a text that is cut off there is read as. */
    private static int whenCut(String text) {
        String whole = text.stripTrailing();
        if (whole.isEmpty() || whole.endsWith(";")) return (int) whole.chars().filter(c -> c == ';').count();
        int at = whole.length();
        while (at > 0 && Character.isLetter(whole.charAt(at - 1))) at--;
        String last = whole.substring(at);
        for (String word : WORDS) {
            if (word.equals(last)) last = "";
        }
        return -10 - (last.isEmpty() ? text.length() : at);
    }

    private static void cutAnywhere() {
        for (int bytes = 0; bytes <= ALL_ITEMS.length(); bytes++) {
            String text = ALL_ITEMS.substring(0, bytes);
            reads(text, whenCut(text));
        }
        reads(ALL_ITEMS, 6);
        faultAt("wall 8", 6);
        faultAt("wall 8 5", 8);
        faultAt("wal", 0);
    }

    private static void cutAnywhereBehindBlanks() {
        String wide = ALL_ITEMS.replace(" ", "   ").replace(";", " ; ");
        for (int bytes = 0; bytes <= wide.length(); bytes++) {
            String text = "  " + wide.substring(0, bytes) + "  ";
            reads(text, whenCut(text));
        }
        reads("  " + wide, 6);
        faultAt("  wall   8  ", 12);
    }

    private static void everyByteAlone() {
        for (int sign = 0; sign <= 255; sign++) {
            LitWindows x = new LitWindows();
            x.type(sign, 1);
            due("read() of the byte " + sign, x.read(), sign == 32 ? 0 : -10);
        }
    }

    private static boolean isFigure(int sign) {
        return sign >= '0' && sign <= '9';
    }

    private static boolean isLetter(int sign) {
        return sign >= 'a' && sign <= 'z';
    }

    private static void everyByteBetween() {
        for (int sign = 0; sign <= 255; sign++) {
            char c = (char) sign;
            String what = "read() with the byte " + sign + " ";
            LitWindows x = new LitWindows();
            int number = sign == 32 ? 1 : isLetter(sign) ? -10 : sign == '0' ? 1 : isFigure(sign) ? -1000 : -15;
            due(what + "behind a word", plan(x, "slack" + c + "1;"), number);
            int stop = sign == 32 ? 1 : isFigure(sign) ? -1000 : sign == ';' ? -18 : -17;
            due(what + "behind a number", plan(x, "slack 1" + c + ";"), stop);
            due(what + "between items", plan(x, "slack 1;" + c + "slack 1;"), sign == 32 ? 2 : -18);
            due(what + "in a word", plan(x, "sla" + c + "k 1;"), sign == 'c' ? 1 : -10);
            due(what + "ahead of all", plan(x, c + "slack 1;"), sign == 32 ? 1 : -10);
            due(what + "behind all", plan(x, "slack 1;" + c), sign == 32 ? 1 : -18);
        }
    }

    private static void figuresOneToFour() {
        reads("slack 3;", 1);
        reads("slack 03;", 1);
        reads("slack 003;", 1);
        reads("slack 0003;", 1);
        faultAt("slack 00003;", 6);
        faultAt("slack   000000000000000000003;", 8);
        faultAt("slack00003", 5);
        refusedAt("slack 9999;", 0);
        faultAt("slack 10000;", 6);
        refusedAt("letter 4096;", 0);
        refusedAt("letter 9999;", 0);
        faultAt("letter 40950;", 7);
        faultAt("letter 4294967296;", 7);
        faultAt("tenant 0 00000 0;", 9);
        faultAt("tenant 00000 00000 0;", 7);
        faultAt("has 0 0 12345;", 8);
        faultAt("slack 0;12345;", 8);
        faultAt("slack 0 12345;", 8);
        faultAt("lit 0 00 000;lit 0 0 0000;12", 26);
        LitWindows x = new LitWindows();
        due("read()", plan(x, "tenant 0005 0009 0099;has 0000 0011 0004;letter 0012;"), 3);
        due("has(59, NONE)", x.has(59, NONE), 0);
        due("reads(12)", x.reads(12, false), 0);
    }

    private static void wordsThatAreNone() {
        for (String word : WORDS) {
            faultAt(word.substring(1) + " 3 4;", 0);
            faultAt(word.substring(0, word.length() - 1) + " 3 4;", 0);
            faultAt(word + "s 3 4;", 0);
            faultAt("a" + word + " 3 4;", 0);
            faultAt(word + "a 3 4;", 0);
            faultAt(word + "z 3 4;", 0);
            faultAt(word + word + " 3 4;", 0);
            faultAt("slack 0; " + word + "z 3;", 9);
            faultAt(Character.toUpperCase(word.charAt(0)) + word.substring(1) + " 3 4;", 0);
            for (int at = 0; at < word.length(); at++) faultAt(word.substring(0, at) + "q" + word.substring(at + 1) + " 3 4;", 0);
            faultAt(word, word.length());
            faultAt(word + " ", word.length() + 1);
            faultAt(word + ";", word.length());
        }
        for (String none : new String[] {"a", "z", "image", "refuses", "reading", "pains", "walls", "hat", "lot", "slock", "tenants"}) {
            faultAt(none + " 0 0 0;", 0);
        }
        faultAt("wALL 3 4;", 0);
        faultAt("letter 1;wAll 3 4;", 9);
    }

    // Behind each beginning, what can stand next and what can not: a word, a number, a stop, an end, another byte.
    private static void tokensInAnothersPlace() {
        for (int w = 0; w < 6; w++) {
            String item = WORDS[w];
            for (int n = 0; n <= NUMBERS[w]; n++) {
                int here = item.length() + 1;
                faultAt(item + " wall 3 4;", here);
                faultAt(item + " x", here);
                faultAt(item + " ?", here);
                faultAt(item + " -1;", here);
                faultAt(item + " ", here);
                faultAt(item + " 55555", here);
                if (n < NUMBERS[w]) faultAt(item + " ;", here);
                else faultAt(item + " 3;", here);
                item += " 3";
            }
        }
        faultAt(";wall 3 4;", 0);
        faultAt("3 wall 3 4;", 0);
        faultAt("wall 3 4;;", 9);
        faultAt("wall 3 4; ; ", 10);
        faultAt("wall 3 4;3", 9);
        faultAt("wall 3 4 wall 3 4;", 9);
        faultAt("? wall", 0);
        faultAt("slack 1; wall 3 ? 00000", 16);
    }

    private static void blanksWhereNeeded() {
        reads("wall3 4;tenant0 0 0;has0 0 0;letter1;lit0 0 0;slack0;", 6);
        reads("wall 3 4 ; tenant 0 0 0 ; has 0 0 0 ; letter 1 ; lit 0 0 0 ; slack 0 ;", 6);
        reads("  wall   3   4  ;  letter  0001  ;  ", 2);
        faultAt("wall34;", 6);
        faultAt("wall 34;", 7);
        faultAt("tenant000;", 9);
        faultAt("tenant0 00;", 10);
        faultAt("tenantwall 3 4;", 0);
        faultAt("wall 3\t4;", 6);
        faultAt("wall 3\n4;", 6);
        faultAt("wall 3,4;", 6);
        faultAt("wall 3\u00a04;", 6);
        faultAt("wall 3 4;\r", 9);
        faultAt("sla ck 1;", 0);
        faultAt("slack 1 1;", 8);
        faultAt("letter 1 2;", 9);
    }

    private static void faultsAtTheLastByte() {
        String blanks = " ".repeat(199);
        for (char c : new char[] {';', '0', 'a', 'z', '!', '\0', '\u00ff'}) faultAt(blanks + c, 199);
        faultAt(" ".repeat(190) + "letter 123", 200);
        faultAt(" ".repeat(189) + "letter 1;!!", 198);
        faultAt(" ".repeat(191) + "letter1;;", 199);
        faultAt(" ".repeat(190) + "letter0001", 200);
        faultAt(" ".repeat(189) + "letter00001", 195);
    }

    private static void itemsAtTheirBounds() {
        String[] texts = {"wall 3 4;", "wall 12 5;", "wall 3 5;", "wall 12 4;", "tenant 0 0 0;", "tenant 5 9 99;", "tenant 0 9 99;",
            "letter 0;", "letter 4095;", "lit 0 0 0;", "lit 3 11 4;", "lit 0 11 0;", "lit 3 0 4;", "slack 0;", "slack 3;"};
        for (String text : texts) reads(text, 1);
        reads("tenant 0 0 0;has 0 0 0;has 0 11 4;has 0 11 0;has 0 0 4;", 5);
        reads("tenant0 0 0;".repeat(6) + "has 5 0 0;", 7);
        reads("letter0;letter1;letter2;letter3;letter4;letter5;", 6);
        reads("tenant0 0 0;".repeat(6) + "wall3 4;" + "tenant0 0 0;".repeat(6), 13);
        reads("lit 0 0 0;lit 1 0 0;lit 2 0 0;lit 3 0 0;", 4);
        reads("tenant 0 0 0;has 0 0 0;has 0 0 0;", 3);
    }

    private static void itemsPastTheirBounds() {
        String[] texts = {"wall 2 4;", "wall 13 4;", "wall 3 3;", "wall 3 6;", "wall 0 0;", "wall 9999 9999;", "wall 5 12;",
            "tenant 6 0 0;", "tenant 0 10 0;", "tenant 0 0 100;", "tenant 9999 0 0;", "letter 4096;", "letter 9999;",
            "lit 4 0 0;", "lit 0 12 0;", "lit 0 0 5;", "lit 0 12 4;", "lit 3 11 5;", "lit 9999 0 0;", "lit 0 9999 0;", "lit 0 0 9999;",
            "slack 4;", "slack 9999;", "has 0 0 0;"};
        for (String text : texts) {
            refusedAt(text, 0);
            refusedAt("slack 1;" + text + "slack 2;", 1);
        }
        String one = "tenant 0 0 0;";
        for (String text : new String[] {"has 1 0 0;", "has 9999 0 0;", "has 0 12 0;", "has 0 0 5;", "has 0 12 4;", "has 0 9999 9999;"}) {
            refusedAt(one + text, 1);
        }
        refusedAt("letter 5;letter 5;", 1);
        refusedAt("letter0;letter1;letter2;letter3;letter4;letter5;letter9;", 6);
        refusedAt("letter0;letter1;letter2;letter3;letter4;letter5;letter5;", 6);
        refusedAt("tenant0 0 0;".repeat(7), 6);
        refusedAt("tenant0 0 0;".repeat(6) + "has 6 0 0;", 6);
        refusedAt("lit 0 0 0;lit 0 0 0;", 1);
        refusedAt("lit 3 11 4;slack 0;lit 3 11 4;", 2);
    }

    private static void itemsByTheWallBefore() {
        reads("wall 4 4;lit 0 3 3;", 2);
        refusedAt("wall 4 4;lit 0 4 3;", 1);
        refusedAt("wall 4 4;lit 0 3 4;", 1);
        refusedAt("wall 4 4;tenant 0 0 0;has 0 4 0;", 2);
        refusedAt("wall 4 4;tenant 0 0 0;has 0 0 4;", 2);
        refusedAt("tenant 0 0 0;wall 4 4;has 0 0 0;", 2);
        reads("lit 0 0 0;wall 12 5;lit 0 0 0;", 3);
        reads("letter 7;wall 12 5;letter 7;", 3);
        LitWindows x = new LitWindows();
        x.wall(4, 4);
        x.tenant(0, 0, 0);
        x.letter(7);
        x.lit(0, 0, true);
        due("a new wall is told, not the one that is", plan(x, "lit 0 11 4;lit 0 0 0;letter 7;"), 3);
        due("the tenant is told anew", plan(x, "has 0 0 0;"), -1000);
        due("has(0, NONE)", x.has(0, NONE), NONE);
        due("count(0)", x.count(0), 12);
    }

    private static void firstItemRefused() {
        refusedAt("slack 9;slack 9;", 0);
        refusedAt("slack 1;slack 9;wall 0 0;", 1);
        refusedAt("slack1;".repeat(27) + "slack9;", 27);
        refusedAt("slack1;".repeat(14) + "slack9;" + "slack1;".repeat(13), 14);
        faultAt("slack 9;slack 9", 15);
        faultAt("slack 9;;", 8);
        LitWindows x = new LitWindows();
        x.wall(5, 5);
        x.letter(9);
        x.reading(0, 0, NONE);
        long before = x.digest() - x.count(5);
        due("read() of what is refused", plan(x, "wall 3 4;tenant 0 0 0;letter 1;slack 3;lit 0 0 0;lit 0 0 0;"), -1005);
        due("read() of a fault", plan(x, "wall 3 4;tenant 0 0 0;letter 1;slack 3;lit 0 0 0;lit 0 0"), -10 - 56);
        x.clear();
        due("digest(): nothing changes", x.digest(), before);
        for (int what = 0; what <= 2; what++) due("status(" + what + "): no call was refused", x.status(what), 0);
    }

    private static void toldAnew() {
        LitWindows x = new LitWindows();
        x.wall(3, 4);
        for (int t = 0; t < 6; t++) x.tenant(0, 0, 0);
        for (int l = 0; l < 6; l++) x.letter(l);
        for (int t = 0; t < 6; t++) x.refuses(t, t);
        for (int r = 0; r < 6; r++) x.reading(0, r, r);
        x.has(0, 5);
        x.lit(1, 0, true);
        x.slack(3);
        due("read()", plan(x, "letter 4;tenant 3 1 1;"), 2);
        x.clear();
        LitWindows same = new LitWindows();
        same.letter(4);
        same.tenant(3, 1, 1);
        due("digest(): no more than was told", x.digest(), same.digest());
        due("refuses(0, NONE)", x.refuses(0, NONE), NONE);
        due("has(0, NONE)", x.has(0, NONE), NONE);
        due("lit(1, 0, false)", x.lit(1, 0, false), NO);
        due("count(4)", x.count(4), 0);
    }

    private static void toldJustAsByCalls() {
        LitWindows x = new LitWindows();
        due("read()", plan(x, "wall 9 5;tenant 4 9 99;tenant 1 0 7;has 1 8 4;has 0 0 1;has 0 8 4;letter 4095;letter 1;lit 3 8 4;lit 0 2 3;slack 2;slack 1;"), 12);
        x.clear();
        LitWindows y = new LitWindows();
        y.wall(9, 5);
        y.tenant(4, 9, 99);
        y.tenant(1, 0, 7);
        y.has(56, 1);
        y.has(12, 0);
        y.has(56, 0);
        y.letter(4095);
        y.letter(1);
        y.lit(3, 56, true);
        y.lit(0, 38, true);
        y.slack(1);
        due("digest()", x.digest(), y.digest());
        due("pains(56, 3)", x.pains(56, 3), 21);
        due("pains(56, 0)", x.pains(56, 0), NONE);
    }

    private static void textAndImagesStay() {
        LitWindows x = new LitWindows();
        x.slack(1);
        x.image(0);
        due("read()", plan(x, "slack 2;"), 1);
        due("read() again", x.read(), 1);
        due("count(5)", x.count(5), 8);
        due("from(1): none kept", x.from(1), NO);
        due("from(0)", x.from(0), 1);
        due("slack(0)", x.slack(0), 1);
        due("read() once more", x.read(), 1);
        due("type: it comes behind", x.type('!', 1), 9);
        due("read() of a fault", x.read(), -18);
        due("slack(0): as it was read last", x.slack(0), 2);
    }
}
