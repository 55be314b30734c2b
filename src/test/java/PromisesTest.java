/** For each promise of the document: ordinary calls, the edges that it names, and wrong ones. */
public final class PromisesTest {
    private static final int NONE = -1, BAD = -2, NO = -3, FULL = -4;
    private static final int BIG = Integer.MAX_VALUE, SMALL = Integer.MIN_VALUE;
    private static int wrong = 0;

    private static void due(int promise, String call, long got, long want) {
        if (got == want) return;
        wrong++;
        System.out.println("promise " + promise + ": " + call + " answered " + got + ", due is " + want);
    }

    public static void main(String[] args) {
        newObject();
        wallAnew();
        tenants();
        refusals();
        owners();
        letters();
        lights();
        slacks();
        painsOfWindows();
        typing();
        clearing();
        readingPlans();
        faults();
        refusedItems();
        readShapes();
        shapesOnTheWall();
        sayings();
        leastPains();
        boxes();
        leastPainsOfLikeOnes();
        pairsOfWords();
        boughtWords();
        canBeSaid();
        barredHeights();
        readings();
        unreading();
        deadLamps();
        deadPairs();
        unlikeShapes();
        images();
        statuses();
        counts();
        digests();
        System.out.println(wrong == 0 ? "all promises are kept" : wrong + " answers are not as due");
        if (wrong != 0) System.exit(1);
    }

    /** A wall that one plain tenant (PAIN 1, PAY 7) owns wholly. */
    private static LitWindows owned(int wide, int high) {
        LitWindows x = new LitWindows();
        x.wall(wide, high);
        x.tenant(0, 1, 7);
        own(x, 0, 0, wide - 1, high);
        return x;
    }

    private static void own(LitWindows x, int tenant, int fromColumn, int toColumn, int high) {
        for (int y = 0; y < high; y++) {
            for (int c = fromColumn; c <= toColumn; c++) x.has(12 * y + c, tenant);
        }
    }

    private static void type(LitWindows x, String text) {
        for (int i = 0; i < text.length(); i++) x.type(text.charAt(i), 1);
    }

    private static int plan(LitWindows x, String text) {
        x.clear();
        type(x, text);
        return x.read();
    }

    private static void newObject() {
        LitWindows x = new LitWindows();
        due(1, "count(0)", x.count(0), 12);
        due(1, "count(1)", x.count(1), 5);
        for (int what = 2; what <= 5; what++) due(1, "count(" + what + ")", x.count(what), 0);
        for (int what = 0; what <= 2; what++) due(1, "status(" + what + ")", x.status(what), 0);
        due(1, "has(59, NONE)", x.has(59, NONE), NONE);
        due(1, "slack(0)", x.slack(0), 0);
        due(1, "from(0)", x.from(0), NO);
        due(1, "from(1)", x.from(1), NO);
        for (int hour = 0; hour < 4; hour++) due(1, "shape", x.shape(hour, 0), 0);
    }

    private static void wallAnew() {
        LitWindows x = owned(12, 5);
        x.letter(1);
        x.lit(2, 3, true);
        x.slack(2);
        x.reading(0, 0, NONE);
        x.type('a', 1);
        x.image(1);
        due(2, "wall(2, 4)", x.wall(2, 4), BAD);
        due(2, "wall(13, 4)", x.wall(13, 4), BAD);
        due(2, "wall(3, 3)", x.wall(3, 3), BAD);
        due(2, "wall(3, 6)", x.wall(3, 6), BAD);
        due(2, "wall(SMALL, BIG)", x.wall(SMALL, BIG), BAD);
        due(2, "count(2)", x.count(2), 1);
        due(2, "wall(4, 4)", x.wall(4, 4), 1);
        due(2, "count(0)", x.count(0), 4);
        due(2, "count(1)", x.count(1), 4);
        for (int what = 2; what <= 4; what++) due(2, "count(" + what + ")", x.count(what), 0);
        due(2, "count(5)", x.count(5), 1);
        due(2, "status(0)", x.status(0), 5);
        due(2, "has(0, NONE)", x.has(0, NONE), NONE);
        due(2, "shape(2, 1)", x.shape(2, 1), 0);
        due(2, "slack(0)", x.slack(0), 0);
        due(2, "from(1)", x.from(1), 1);
        due(2, "wall(3, 5)", x.wall(3, 5), 1);
        due(2, "wall(12, 4)", x.wall(12, 4), 1);
        due(2, "tenant", x.tenant(0, 1, 1), 0);
        due(2, "has(0, NONE) anew", x.has(0, NONE), NONE);
    }

    private static void tenants() {
        LitWindows x = new LitWindows();
        due(3, "tenant(-1, 0, 0)", x.tenant(-1, 0, 0), BAD);
        due(3, "tenant(6, 0, 0)", x.tenant(6, 0, 0), BAD);
        due(3, "tenant(0, -1, 0)", x.tenant(0, -1, 0), BAD);
        due(3, "tenant(0, 10, 0)", x.tenant(0, 10, 0), BAD);
        due(3, "tenant(0, 0, -1)", x.tenant(0, 0, -1), BAD);
        due(3, "tenant(0, 0, 100)", x.tenant(0, 0, 100), BAD);
        for (int t = 0; t < 6; t++) due(3, "tenant", x.tenant(t, 9 - t, 99 * (t % 2)), t);
        due(3, "tenant(0, 0, 0)", x.tenant(0, 0, 0), FULL);
        due(3, "tenant(0, 0, 100), all full", x.tenant(0, 0, 100), BAD);
        due(3, "count(2)", x.count(2), 6);
        due(3, "status(2)", x.status(2), 1);
        x.letter(0);
        due(3, "refuses(5, 0)", x.refuses(5, 0), NONE);
    }

    private static void refusals() {
        LitWindows x = new LitWindows();
        x.tenant(0, 0, 0);
        due(4, "refuses(0, 0), no letter", x.refuses(0, 0), -10);
        x.letter(1);
        x.letter(2);
        due(4, "refuses(0, 1)", x.refuses(0, 1), NONE);
        due(4, "refuses(0, 0)", x.refuses(0, 0), 1);
        due(4, "refuses(0, 2)", x.refuses(0, 2), -10);
        due(4, "refuses(0, -2)", x.refuses(0, -2), -10);
        due(4, "refuses(1, 0)", x.refuses(1, 0), -10);
        due(4, "refuses(-1, 0)", x.refuses(-1, 0), -10);
        due(4, "refuses(0, NONE)", x.refuses(0, NONE), 0);
        due(4, "refuses(0, NONE)", x.refuses(0, NONE), NONE);
        due(4, "status(0)", x.status(0), 5);
    }

    private static void owners() {
        LitWindows x = new LitWindows();
        x.wall(5, 4);
        x.tenant(0, 0, 0);
        x.tenant(1, 0, 0);
        due(5, "has(40, 1)", x.has(40, 1), NONE);
        due(5, "has(40, 0)", x.has(40, 0), 1);
        due(5, "has(40, 0)", x.has(40, 0), 0);
        due(5, "has(40, NONE)", x.has(40, NONE), 0);
        due(5, "has(40, NONE)", x.has(40, NONE), NONE);
        due(5, "has(5, 0): x is W", x.has(5, 0), -10);
        due(5, "has(48, 0): y is H", x.has(48, 0), -10);
        due(5, "has(-1, 0)", x.has(-1, 0), -10);
        due(5, "has(-12, 0)", x.has(-12, 0), -10);
        due(5, "has(BIG, 0)", x.has(BIG, 0), -10);
        due(5, "has(0, 2)", x.has(0, 2), -10);
        due(5, "has(0, -2)", x.has(0, -2), -10);
        due(5, "status(0)", x.status(0), 7);
        due(5, "has(0, NONE)", x.has(0, NONE), NONE);
    }

    private static void letters() {
        LitWindows x = new LitWindows();
        due(6, "letter(-1)", x.letter(-1), BAD);
        due(6, "letter(4096)", x.letter(4096), BAD);
        due(6, "letter(4095)", x.letter(4095), 0);
        due(6, "letter(4095)", x.letter(4095), BAD);
        for (int i = 1; i < 6; i++) due(6, "letter", x.letter(i - 1), i);
        due(6, "letter(9), all full", x.letter(9), FULL);
        due(6, "letter(4), all full but alike", x.letter(4), BAD);
        due(6, "count(3)", x.count(3), 6);
    }

    private static void lights() {
        LitWindows x = new LitWindows();
        x.wall(11, 4);
        due(7, "lit(0, 46, false)", x.lit(0, 46, false), NO);
        due(7, "lit(0, 46, true)", x.lit(0, 46, true), 1);
        due(7, "lit(0, 46, true)", x.lit(0, 46, true), NO);
        due(7, "lit(3, 46, true)", x.lit(3, 46, true), 1);
        due(7, "shape(0, 8)", x.shape(0, 8), 2048);
        due(7, "shape(1, 8)", x.shape(1, 8), 0);
        due(7, "shape(3, 8)", x.shape(3, 8), 2048);
        due(7, "lit(0, 46, false)", x.lit(0, 46, false), 1);
        due(7, "shape(0, 8)", x.shape(0, 8), 0);
        due(7, "lit(4, 0, true)", x.lit(4, 0, true), BAD);
        due(7, "lit(-1, 0, false)", x.lit(-1, 0, false), BAD);
        due(7, "lit(0, 11, true)", x.lit(0, 11, true), BAD);
        due(7, "lit(0, 48, true)", x.lit(0, 48, true), BAD);
        due(7, "lit(0, -1, true)", x.lit(0, -1, true), BAD);
        due(7, "status(0)", x.status(0), 5);
        due(7, "status(1)", x.status(1), 2);
    }

    private static void slacks() {
        LitWindows x = new LitWindows();
        due(8, "slack(3)", x.slack(3), 0);
        due(8, "slack(4)", x.slack(4), BAD);
        due(8, "slack(-1)", x.slack(-1), BAD);
        due(8, "slack(1)", x.slack(1), 3);
        due(8, "slack(1)", x.slack(1), 1);
    }

    private static void painsOfWindows() {
        LitWindows x = new LitWindows();
        int[][] want = {{4, 4, 4, 4}, {4, 4, 8, 8}, {0, 0, 4, 4}, {7, 7, 11, 11}, {7, 7, 11, 11}, {0, 0, 0, 0}};
        for (int kind = 0; kind < 6; kind++) {
            x.tenant(kind, 4, 0);
            x.has(kind, kind);
            for (int hour = 0; hour < 4; hour++) {
                int dark = kind == 4 ? NONE : want[kind][hour];
                due(9, "pains dark, kind " + kind, x.pains(kind, hour), dark);
                x.lit(hour, kind, true);
                due(9, "pains lit, kind " + kind, x.pains(kind, hour), want[kind][hour]);
            }
        }
        x.letter(0);
        x.refuses(0, 0);
        due(9, "pains, who refuses a letter, no word asked", x.pains(0, 0), 4);
        due(9, "pains of nobody", x.pains(6, 0), NONE);
        due(9, "pains(60, 0)", x.pains(60, 0), BAD);
        due(9, "pains(-1, 0)", x.pains(-1, 0), BAD);
        due(9, "pains(0, 4)", x.pains(0, 4), BAD);
        due(9, "pains(0, -1)", x.pains(0, -1), BAD);
    }

    private static void typing() {
        LitWindows x = new LitWindows();
        due(10, "type(.., 0)", x.type(1, 0), BAD);
        due(10, "type(.., 9)", x.type(1, 9), BAD);
        due(10, "type(.., -1)", x.type(1, -1), BAD);
        long slack1 = 0x736c61636b20313bL;
        due(10, "type(slack 1;, 8)", x.type(slack1, 8), 8);
        due(10, "read()", x.read(), 1);
        due(10, "slack(0)", x.slack(0), 1);
        due(10, "type(.. x, 1)", x.type(0x7a7a7878L, 1), 9);
        due(10, "read(): x can not stand there", x.read(), -18);
        for (int k = 0; k < 23; k++) x.type(0x2020202020202020L, 8);
        due(10, "count(5)", x.count(5), 193);
        due(10, "type(.., 8), 7 free", x.type(0, 8), FULL);
        due(10, "count(5)", x.count(5), 193);
        due(10, "type(.., 7)", x.type(0, 7), 200);
        due(10, "type(.., 1)", x.type(0, 1), FULL);
        due(10, "type(.., 9), all full", x.type(0, 9), BAD);
        due(10, "status(2)", x.status(2), 2);
    }

    private static void clearing() {
        LitWindows x = new LitWindows();
        due(11, "clear()", x.clear(), 0);
        type(x, "wall 3 4;");
        due(11, "clear()", x.clear(), 9);
        due(11, "clear()", x.clear(), 0);
        due(11, "read()", x.read(), 0);
        due(11, "count(0)", x.count(0), 12);
    }

    private static void readingPlans() {
        LitWindows x = owned(4, 4);
        x.letter(9);
        x.reading(0, 0, 0);
        x.slack(3);
        x.image(0);
        String text = "wall 8 4;tenant0 5 6;tenant 4 2 0 ;has 1 7 3;  has 0 0 0 ; letter 4095;letter0009;"
                + "lit 3 7 3;lit 1 2 1;slack 2;";
        due(12, "read()", plan(x, text), 10);
        due(12, "count(0)", x.count(0), 8);
        due(12, "count(1)", x.count(1), 4);
        due(12, "count(2)", x.count(2), 2);
        due(12, "count(3)", x.count(3), 2);
        due(12, "count(4): no readings", x.count(4), 0);
        due(12, "count(5): the text stays", x.count(5), text.length());
        due(12, "pains(0, 0)", x.pains(0, 0), 5);
        due(12, "pains(43, 3)", x.pains(43, 3), 7);
        due(12, "shape(3, 5)", x.shape(3, 5), 2048);
        due(12, "shape(1, 2)", x.shape(1, 2), 8);
        due(12, "reads(9)", x.reads(9, false), 1);
        due(12, "slack(0)", x.slack(0), 2);
        due(12, "has(1, NONE)", x.has(1, NONE), NONE);
        due(12, "from(0): images stay", x.from(0), 1);
        due(12, "count(0)", x.count(0), 4);
        due(12, "read() of blanks", plan(x, "   "), 0);
        due(12, "count(0): told anew", x.count(0), 12);
        due(12, "count(2): told anew", x.count(2), 0);
        due(12, "slack(0): told anew", x.slack(0), 0);
        due(12, "a wall behind tenants", plan(x, "tenant 0 0 0;wall 3 5;"), 2);
        due(12, "count(2)", x.count(2), 0);
        due(12, "an owner told twice", plan(x, "tenant 0 3 0;has 0 1 1;has 0 1 1;"), 3);
        due(12, "28 items", plan(x, "slack0;".repeat(28)), 28);
    }

    private static void faults() {
        String[] texts = {";", "  ;", "wall", "wall ", "wal", "wall 3", "wall 3 4", "wall 3 4  ", "wall 3 4;;", "wall 3;",
            "wall 3 4 5;", "wallx 3 4;", "walls", "Wall 3 4;", "wall 3 4;\n", "slack 00001;", "slack 12345", "slack 0001;slack",
            "slack slack 1;", "slack1slack1;", "slack 1.", "1", "slack 1;7", "letter -1;", "wall 3 4;hass 0 0 0;", "wall 3\t4;",
            "wall 30000 4;", "wall 2 2;wall", "slack 1; lit 0 0;", "slack1;letter99999999999999999999;", "slack1; {", "slack1; `",
            "slack :;", "slack /;", "aall 3 4;", "zlack 1;", "tenanu 0 0 0;"};
        int[] places = {0, 2, 4, 5, 0, 6, 8, 10, 9, 6,
            9, 0, 0, 0, 9, 6, 6, 16,
            6, 6, 7, 0, 8, 7, 9, 6,
            5, 13, 16, 13, 8, 8,
            6, 6, 0, 0, 0};
        for (int i = 0; i < texts.length; i++) faultAt(texts[i], places[i]);
        for (int sign : new int[] {0, 31, 33, 127, 128, 255}) {
            LitWindows x = new LitWindows();
            x.type(sign, 1);
            due(12, "read() of the byte " + sign, x.read(), -10);
        }
        faultAt(" ".repeat(196) + "slac", 196);
        faultAt(" ".repeat(195) + "slack", 200);
    }

    private static void faultAt(String text, int place) {
        LitWindows x = owned(4, 4);
        long before = x.digest();
        due(12, "read() of '" + text + "'", plan(x, text), -10 - place);
        due(12, "a fault is no refusal", x.status(0) + x.status(1) + x.status(2), 0);
        x.clear();
        due(12, "digest(): nothing changes by '" + text + "'", x.digest(), before);
    }

    private static void refusedItems() {
        String[] texts = {"wall 2 4;", "wall 3 6;", "tenant 6 0 0;", "tenant 0 10 0;", "tenant 0 0 100;", "has 0 0 0;",
            "slack 4;", "letter 4096;", "slack 1;letter 3;letter 3;", "tenant 0 0 0;wall 5 4;has 0 0 0;",
            "wall 5 4;tenant 0 0 0;has 0 5 0;", "wall 5 4;tenant 0 0 0;has 0 0 4;", "lit 4 0 0;", "lit 0 12 0;", "lit 0 0 5;",
            "lit 0 1 1;lit 1 1 1;lit 0 1 1;", "tenant 0 0 0;has 0 0 9999;", "slack 3;slack 9;slack 8;",
            "letter 0;letter 1;letter 2;letter 3;letter 4;letter 5;letter 6;",
            "tenant0 0 0;tenant0 0 0;tenant0 0 0;tenant0 0 0;tenant0 0 0;tenant0 0 0;slack 1;tenant0 0 0;"};
        int[] items = {0, 0, 0, 0, 0, 0, 0, 0, 2, 2, 2, 2, 0, 0, 0, 2, 1, 1, 6, 7};
        for (int i = 0; i < texts.length; i++) refusedAt(texts[i], items[i]);
        due(12, "a fault goes ahead of an item refused", plan(new LitWindows(), "slack 9;slack 9"), -25);
    }

    private static void refusedAt(String text, int item) {
        LitWindows x = owned(4, 4);
        x.letter(77);
        x.reading(0, 0, NONE);
        long before = x.digest();
        due(12, "read() of '" + text + "'", plan(x, text), -1000 - item);
        due(12, "items are no refusals", x.status(0) + x.status(1) + x.status(2), 0);
        x.clear();
        due(12, "digest(): nothing changes by '" + text + "'", x.digest(), before);
    }

    private static void readShapes() {
        LitWindows x = new LitWindows();
        due(13, "reads(0), no letters", x.reads(0, false), NONE);
        x.letter(0b001);
        x.letter(0b111);
        x.letter(0b111_000_000_000);
        due(13, "reads(1)", x.reads(1, false), 0);
        due(13, "reads(3), no slack", x.reads(3, false), NONE);
        due(13, "reads(4) from the harbour", x.reads(4, false), NONE);
        due(13, "reads(4) from behind", x.reads(4, true), 0);
        due(13, "reads(1) from behind", x.reads(1, true), NONE);
        x.slack(1);
        due(13, "reads(3): two are as near", x.reads(3, false), NONE);
        due(13, "reads(0): one differs", x.reads(0, false), 0);
        due(13, "reads(6): one differs", x.reads(6, false), 1);
        due(13, "reads(8): two differ", x.reads(8, false), NONE);
        due(13, "reads(0b111_000_010_000)", x.reads(0b111_000_010_000, false), 2);
        x.slack(2);
        due(13, "reads(8): two differ", x.reads(8, false), 0);
        due(13, "reads(0b011_000_010_000)", x.reads(0b011_000_010_000, false), 2);
        due(13, "reads(0b111_001_011_000)", x.reads(0b111_001_011_000, false), NONE);
        x.slack(3);
        due(13, "reads(0b111_001_011_000)", x.reads(0b111_001_011_000, false), 2);
        due(13, "reads(0b110_001_000_100), behind", x.reads(0b110_100_000_100, true), NONE);
        due(13, "reads(0b110_001_000_000), behind", x.reads(0b110_100_000_000, true), 2);
        due(13, "reads(-1)", x.reads(-1, false), BAD);
        due(13, "reads(4096)", x.reads(4096, true), BAD);
        due(13, "reads(4095)", x.reads(4095, true), NONE);
    }

    private static void shapesOnTheWall() {
        LitWindows x = new LitWindows();
        x.lit(1, 0, true);
        x.lit(1, 14, true);
        x.lit(1, 25, true);
        x.lit(1, 38, true);
        x.lit(1, 48, true);
        due(14, "shape(1, 0)", x.shape(1, 0), 1 + 32 + 128 + 2048);
        due(14, "shape(1, 12)", x.shape(1, 12), 4 + 16 + 256 + 512);
        due(14, "shape(1, 1)", x.shape(1, 1), 16 + 64 + 1024);
        due(14, "shape(0, 0)", x.shape(0, 0), 0);
        due(14, "shape(1, 9)", x.shape(1, 9), 0);
        due(14, "shape(1, 10): too far right", x.shape(1, 10), BAD);
        due(14, "shape(1, 21)", x.shape(1, 21), 0);
        due(14, "shape(1, 24): too far down", x.shape(1, 24), BAD);
        due(14, "shape(1, -1)", x.shape(1, -1), BAD);
        due(14, "shape(4, 0)", x.shape(4, 0), BAD);
        due(14, "shape(-1, 0)", x.shape(-1, 0), BAD);
        x.wall(3, 4);
        due(14, "shape(0, 0), the least wall", x.shape(0, 0), 0);
        due(14, "shape(0, 1), the least wall", x.shape(0, 1), BAD);
        due(14, "shape(0, 12), the least wall", x.shape(0, 12), BAD);
        for (int cell = 0; cell < 12; cell++) {
            x.lit(2, cell / 3 * 12 + cell % 3, true);
            due(14, "shape of so many cells", x.shape(2, 0), (2 << cell) - 1);
        }
    }

    private static void sayings() {
        LitWindows x = new LitWindows();
        x.letter(0b001);
        x.letter(0b111);
        x.lit(2, 9, true);
        x.lit(2, 12, true);
        due(15, "says(2, 0, 0, harbour)", x.says(2, 0, 0, false), 1 << 9);
        due(15, "says(2, 0, 0, behind)", x.says(2, 0, 0, true), 1 << 7);
        due(15, "says(2, 1, 0, harbour)", x.says(2, 1, 0, false), 1);
        due(15, "says(2, 1, 0, behind)", x.says(2, 1, 0, true), 0);
        due(15, "says(2, 1, 1, harbour)", x.says(2, 1, 1, false), 0);
        due(15, "says(3, 1, 0, harbour)", x.says(3, 1, 0, false), 0);
        x.slack(1);
        due(15, "says(2, 1, 0), slack 1", x.says(2, 1, 0, false), 1023);
        x.slack(3);
        x.lit(0, 0, true);
        x.lit(0, 1, true);
        due(15, "says(0, 0, 0), two as near at 0", x.says(0, 0, 0, false), 1022);
        due(15, "says(0, 0, 0) from behind, two as near at 1, too", x.says(0, 0, 0, true), 1020);
        due(15, "says(0, 2, 0)", x.says(0, 2, 0, false), BAD);
        due(15, "says(0, -1, 0)", x.says(0, -1, 0, false), BAD);
        due(15, "says(4, 0, 0)", x.says(4, 0, 0, false), BAD);
        due(15, "says(0, 0, 2)", x.says(0, 0, 2, true), BAD);
        due(15, "says(0, 0, NONE)", x.says(0, 0, NONE, true), BAD);
        x.wall(5, 4);
        x.letter(0);
        due(15, "says(0, 0, 0), 5 wide", x.says(0, 0, 0, false), 7);
        due(15, "says(0, 1, 0), 4 high", x.says(0, 1, 0, false), BAD);
    }

    private static void leastPains() {
        LitWindows x = owned(12, 5);
        due(16, "least(1), no letters", x.least(1, 0), BAD);
        x.letter(0b001);
        x.letter(0b111_111_111_111);
        due(16, "least(1, 0)", x.least(1, 0), 1);
        due(16, "least(2, 0)", x.least(2, 0), 12);
        due(16, "least(222, 0)", x.least(222, 0), 36);
        due(16, "least(3, 0)", x.least(3, 0), BAD);
        due(16, "least(0, 0)", x.least(0, 0), BAD);
        due(16, "least(10, 0)", x.least(10, 0), BAD);
        due(16, "least(101, 0)", x.least(101, 0), BAD);
        due(16, "least(7, 0)", x.least(7, 0), BAD);
        due(16, "least(1111, 0): four letters", x.least(1111, 0), BAD);
        due(16, "least(-1, 0)", x.least(-1, 0), BAD);
        due(16, "least(1, 4)", x.least(1, 4), BAD);
        due(16, "least(1, -1)", x.least(1, -1), BAD);
        due(16, "least(BIG, 0)", x.least(BIG, 0), BAD);
        due(16, "least(SMALL, 0)", x.least(SMALL, 0), BAD);
        x.slack(3);
        due(16, "least(2, 0), slack 3", x.least(2, 0), 9);
        due(16, "least(1, 0), slack 3", x.least(1, 0), 0);
        x.refuses(0, 1);
        due(16, "least(1, 0): one refuses the other letter", x.least(1, 0), 0);
        due(16, "least(2, 0): one refuses", x.least(2, 0), NONE);
        due(16, "least(12, 0): one refuses one letter of the word", x.least(12, 0), NONE);
        x.tenant(5, 9, 0);
        x.has(0, 1);
        x.refuses(1, 0);
        x.slack(0);
        due(16, "least(1, 0): a KIND who refuses never does", x.least(1, 0), 1);
        due(16, "box(1, 0, 0, 0): not where one refuses", x.box(1, 0, 0, 0), 1);
        for (int i = 2; i < 6; i++) x.letter(i);
        due(16, "least(666, 0), six letters", x.least(666, 0), 5);
        due(16, "least(667, 0)", x.least(667, 0), BAD);
        due(16, "least(66, 0)", x.least(66, 0), 3);
        LitWindows narrow = owned(10, 4);
        narrow.letter(0);
        due(16, "least(11, 0), 10 wide", narrow.least(11, 0), 0);
        due(16, "least(111, 0), 10 wide", narrow.least(111, 0), NONE);
        LitWindows stubborn = new LitWindows();
        stubborn.wall(3, 4);
        stubborn.letter(0);
        stubborn.letter(3);
        stubborn.tenant(4, 2, 0);
        stubborn.has(0, 0);
        stubborn.has(1, 0);
        stubborn.lit(2, 0, true);
        due(16, "least(1, 2): put out as OLD", stubborn.least(1, 2), 7);
        due(16, "least(2, 2): never to be lit", stubborn.least(2, 2), NONE);
        stubborn.lit(2, 1, true);
        due(16, "least(2, 2): lit by nature", stubborn.least(2, 2), 0);
        due(16, "least(1, 2): put out as OLD twice", stubborn.least(1, 2), 14);
    }

    private static void boxes() {
        LitWindows x = owned(12, 5);
        x.letter(0b111);
        x.letter(0);
        x.letter(0b1);
        x.lit(0, 17, true);
        x.lit(0, 18, true);
        due(17, "box(1, 0, 0, 0)", x.box(1, 0, 0, 0), 16);
        due(17, "box(1, 0, 0, 1)", x.box(1, 0, 0, 1), 7);
        due(17, "box(12, 0, 0, 0)", x.box(12, 0, 0, 0), 16);
        due(17, "box(12, 0, 1, 0)", x.box(12, 0, 1, 0), 20);
        due(17, "box(21, 0, 0, 0)", x.box(21, 0, 0, 0), 12);
        due(17, "box(21, 0, 1, 0)", x.box(21, 0, 1, 0), 16);
        due(17, "box(21, 0, 1, 1)", x.box(21, 0, 1, 1), 7);
        due(17, "box(222, 1, 2, 0)", x.box(222, 1, 2, 0), 8);
        due(17, "box(222, 1, 3, 0)", x.box(222, 1, 3, 0), -5);
        due(17, "box(22, 1, 2, 0)", x.box(22, 1, 2, 0), -5);
        due(17, "box(1, 0, BIG, 1)", x.box(1, 0, BIG, 1), -5);
        due(17, "box(1, 0, -1, 0)", x.box(1, 0, -1, 0), -10);
        due(17, "box(1, 0, 0, 2)", x.box(1, 0, 0, 2), -10);
        due(17, "box(1, 0, 0, -1)", x.box(1, 0, 0, -1), -10);
        due(17, "box(4, 0, 0, 0)", x.box(4, 0, 0, 0), -10);
        due(17, "box(1, 4, 0, 0)", x.box(1, 4, 0, 0), -10);
        due(17, "box(4, 0, 9, 0): BAD ahead of -5", x.box(4, 0, 9, 0), -10);
        due(17, "status(0)", x.status(0), 6);
        x.refuses(0, 0);
        due(17, "box(1, 0, 0, 0): none", x.box(1, 0, 0, 0), -5);
        due(17, "status(0): -5 is no refusal", x.status(0), 6);
    }

    private static void leastPainsOfLikeOnes() {
        LitWindows x = owned(12, 5);
        x.letter(0b111);
        x.letter(0b001);
        x.lit(0, 6, true);
        due(17, "least(22, 0)", x.least(22, 0), 1);
        due(17, "box(22, 0, 0, 0): the first most to the left", x.box(22, 0, 0, 0), 0);
        due(17, "box(22, 0, 1, 0)", x.box(22, 0, 1, 0), 6);
        x.lit(0, 13, true);
        x.lit(0, 17, true);
        due(17, "least(22, 0): the lower place has less pains", x.least(22, 0), 0);
        due(17, "box(22, 0, 0, 0)", x.box(22, 0, 0, 0), 13);
        due(17, "box(22, 0, 1, 0)", x.box(22, 0, 1, 0), 17);
        due(17, "box(22, 1, 0, 0): another hour", x.box(22, 1, 0, 0), 0);
        LitWindows free = new LitWindows();
        free.wall(3, 5);
        free.tenant(5, 0, 0);
        own(free, 0, 0, 2, 5);
        free.letter(0b111_100_000_000);
        free.letter(0b100_000_000_111);
        free.slack(1);
        due(17, "least(1, 0): all free of pains", free.least(1, 0), 0);
        due(17, "box(1, 0, 0, 0): the least y", free.box(1, 0, 0, 0), 0);
        due(17, "box(1, 0, 0, 1): the least bits", free.box(1, 0, 0, 1), 0b011_100_000_000);
        free.letter(0b011_100_000_000);
        due(17, "box(1, 0, 0, 1): not what is read as another", free.box(1, 0, 0, 1), 0b101_100_000_000);
        free.slack(2);
        due(17, "box(1, 0, 0, 1): nor what is as near to another", free.box(1, 0, 0, 1), 0b100_100_000_000);
    }

    private static void pairsOfWords() {
        LitWindows x = owned(12, 5);
        x.letter(0b111);
        x.letter(0b101);
        x.letter(0b111_000_000_000);
        due(18, "two(1, 0, 1, 1)", x.two(1, 0, 1, 1), 0);
        due(18, "two(1, 0, 2, 1)", x.two(1, 0, 2, 1), 1);
        due(18, "two(1, 0, 2, 0): an hour for both", x.two(1, 0, 2, 0), 1);
        due(18, "two(12, 0, 21, 3)", x.two(12, 0, 21, 3), 2);
        due(18, "two(1, 0, 3, 0)", x.two(1, 0, 3, 0), 6);
        x.lit(1, 0, true);
        x.lit(1, 59, true);
        due(18, "two(1, 0, 1, 1): others by nature", x.two(1, 0, 1, 1), 1);
        due(18, "two(3, 0, 3, 1): others by nature", x.two(3, 0, 3, 1), 1);
        due(18, "two(33, 0, 3, 1): one box lies over 59", x.two(33, 0, 3, 1), 3);
        x.slack(3);
        due(18, "two(1, 0, 2, 2): just as the shapes", x.two(1, 2, 2, 3), 1);
        due(18, "two(4, 0, 1, 1)", x.two(4, 0, 1, 1), BAD);
        due(18, "two(1, 0, 4, 1)", x.two(1, 0, 4, 1), BAD);
        due(18, "two(1, 4, 1, 1)", x.two(1, 4, 1, 1), BAD);
        due(18, "two(1, 0, 1, -1)", x.two(1, 0, 1, -1), BAD);
        due(18, "status(0)", x.status(0), 4);
        x.refuses(0, 0);
        due(18, "two(1, 2, 3, 3): one refuses in the first", x.two(1, 2, 3, 3), NONE);
        due(18, "two(3, 2, 1, 3): one refuses in the second", x.two(3, 2, 1, 3), NONE);
        due(18, "two(2, 2, 3, 3): neither word has it", x.two(2, 2, 3, 3), 5);
        LitWindows narrow = owned(6, 4);
        narrow.letter(0);
        due(18, "two(1, 0, 11, 0): too wide", narrow.two(1, 0, 11, 0), NONE);
        due(18, "two(11, 0, 1, 0): too wide", narrow.two(11, 0, 1, 0), NONE);
        LitWindows nobody = new LitWindows();
        nobody.wall(3, 4);
        nobody.letter(1);
        due(18, "two(1, 0, 1, 1): nobody may", nobody.two(1, 0, 1, 1), NONE);
        nobody.lit(0, 0, true);
        nobody.lit(1, 0, true);
        due(18, "two(1, 0, 1, 1): it is so by nature", nobody.two(1, 0, 1, 1), 0);
    }

    private static void boughtWords() {
        LitWindows x = new LitWindows();
        x.wall(11, 4);
        x.tenant(0, 9, 10);
        x.tenant(1, 0, 4);
        x.tenant(5, 0, 6);
        own(x, 0, 0, 2, 4);
        own(x, 1, 4, 6, 4);
        own(x, 2, 8, 10, 4);
        x.letter(0b111);
        x.letter(0);
        due(19, "bought(2, 0, 0): by nature", x.bought(2, 0, 0), 0);
        due(19, "bought(2, 0, 1): by nature", x.bought(2, 0, 1), 0);
        due(19, "bought(1, 0, 0): the least pay", x.bought(1, 0, 0), 4);
        due(19, "bought(1, 0, 1)", x.bought(1, 0, 1), 2);
        due(19, "bought(11, 0, 0): of like pay", x.bought(11, 0, 0), 10);
        due(19, "bought(11, 0, 1): .. the least bits", x.bought(11, 0, 1), 6);
        due(19, "bought(12, 0, 1)", x.bought(12, 0, 1), 2);
        due(19, "bought(111, 0, 0)", x.bought(111, 0, 0), 20);
        due(19, "bought(111, 0, 1)", x.bought(111, 0, 1), 7);
        x.refuses(1, 0);
        due(19, "bought(1, 0, 1): one refuses", x.bought(1, 0, 1), 4);
        due(19, "bought(111, 0, 0): one refuses", x.bought(111, 0, 0), NONE);
        due(19, "bought(111, 0, 1): one refuses", x.bought(111, 0, 1), NONE);
        x.slack(3);
        due(19, "bought(111, 0, 1), slack 3", x.bought(111, 0, 1), NONE);
        x.lit(0, 4, true);
        x.lit(0, 5, true);
        due(19, "bought(11, 0, 0), slack 3", x.bought(11, 0, 0), 6);
        due(19, "bought(1, 0, 2)", x.bought(1, 0, 2), BAD);
        due(19, "bought(1, 0, -1)", x.bought(1, 0, -1), BAD);
        due(19, "bought(3, 0, 0)", x.bought(3, 0, 0), BAD);
        due(19, "bought(1, 4, 0)", x.bought(1, 4, 0), BAD);
        LitWindows like = new LitWindows();
        like.wall(7, 4);
        like.tenant(0, 9, 5);
        like.tenant(0, 1, 5);
        own(like, 0, 0, 2, 4);
        own(like, 1, 4, 6, 4);
        like.letter(1);
        due(19, "bought(1, 0, 1): like pay", like.bought(1, 0, 1), 1);
    }

    private static void canBeSaid() {
        LitWindows x = owned(7, 4);
        due(20, "can(1, 0), no letters", x.can(1, 0), 0);
        x.letter(0b1);
        x.letter(0b10);
        x.letter(0b100);
        due(20, "can(1, 0)", x.can(1, 0), 3);
        due(20, "can(2, 0)", x.can(2, 0), 9);
        x.refuses(0, 1);
        due(20, "can(1, 0): one letter refused", x.can(1, 0), 2);
        due(20, "can(2, 0): one letter refused", x.can(2, 0), 4);
        x.lit(3, 1, true);
        due(20, "can(1, 3): said by nature", x.can(1, 3), 3);
        due(20, "can(2, 3)", x.can(2, 3), 4);
        due(20, "can(0, 0)", x.can(0, 0), BAD);
        due(20, "can(3, 0)", x.can(3, 0), BAD);
        due(20, "can(1, 4)", x.can(1, 4), BAD);
        due(20, "can(1, -1)", x.can(1, -1), BAD);
        LitWindows narrow = owned(6, 5);
        for (int i = 0; i < 6; i++) narrow.letter(i);
        due(20, "can(1, 1), 6 wide", narrow.can(1, 1), 6);
        due(20, "can(2, 1), 6 wide", narrow.can(2, 1), 0);
        LitWindows wide = owned(12, 5);
        for (int i = 0; i < 6; i++) wide.letter(i);
        due(20, "can(2, 1), 12 wide", wide.can(2, 1), 36);
    }

    private static void barredHeights() {
        LitWindows x = new LitWindows();
        x.wall(8, 5);
        x.letter(1);
        x.letter(2);
        due(21, "bars(1, 0): nobody may", x.bars(1, 0), 3);
        x.lit(0, 13, true);
        due(21, "bars(1, 0): it can be said", x.bars(1, 0), NONE);
        due(21, "bars(12, 0): its first can stand below", x.bars(12, 0), 1);
        due(21, "bars(21, 0): .. at x 0", x.bars(21, 0), 1);
        due(21, "bars(2, 0)", x.bars(2, 0), NONE);
        x.lit(0, 13, false);
        x.lit(0, 7, true);
        due(21, "bars(12, 0): 7 is no box's left column", x.bars(12, 0), 3);
        x.lit(0, 7, false);
        x.lit(0, 5, true);
        due(21, "bars(12, 0): though the second has no room", x.bars(12, 0), 2);
        LitWindows refusing = owned(8, 5);
        refusing.letter(1);
        refusing.letter(2);
        refusing.refuses(0, 1);
        due(21, "bars(1, 0)", refusing.bars(1, 0), NONE);
        due(21, "bars(12, 0): who refuses the second never changes", refusing.bars(12, 0), 3);
        due(21, "bars(3, 0)", x.bars(3, 0), BAD);
        due(21, "bars(1, 4)", x.bars(1, 4), BAD);
        due(21, "bars(0, 0)", x.bars(0, 0), BAD);
        x.wall(8, 4);
        x.letter(1);
        due(21, "bars(1, 0), 4 high", x.bars(1, 0), 1);
    }

    private static void readings() {
        LitWindows x = new LitWindows();
        due(22, "reading(0, 0, NONE), no letters", x.reading(0, 0, NONE), BAD);
        x.letter(1);
        x.letter(2);
        due(22, "reading(10, 0, 0): no box", x.reading(10, 0, 0), BAD);
        due(22, "reading(24, 0, 0): no box", x.reading(24, 0, 0), BAD);
        due(22, "reading(-1, 0, 0)", x.reading(-1, 0, 0), BAD);
        due(22, "reading(BIG, 0, 0)", x.reading(BIG, 0, 0), BAD);
        due(22, "reading(0, 2, 0)", x.reading(0, 2, 0), BAD);
        due(22, "reading(0, NONE, 0)", x.reading(0, NONE, 0), BAD);
        due(22, "reading(0, 0, 2)", x.reading(0, 0, 2), BAD);
        due(22, "reading(0, 0, -2)", x.reading(0, 0, -2), BAD);
        for (int r = 0; r < 6; r++) due(22, "reading", x.reading(r == 0 ? 21 : 0, r % 2, r == 1 ? NONE : r % 2), r);
        due(22, "reading(0, 0, 0), all full", x.reading(0, 0, 0), FULL);
        due(22, "reading(0, 0, 2), all full", x.reading(0, 0, 2), BAD);
        due(22, "count(4)", x.count(4), 6);
    }

    private static void unreading() {
        LitWindows x = new LitWindows();
        due(23, "unread()", x.unread(), 0);
        x.letter(1);
        x.reading(0, 0, 0);
        x.reading(1, 0, NONE);
        due(23, "unread()", x.unread(), 2);
        due(23, "count(4)", x.count(4), 0);
        due(23, "unread()", x.unread(), 0);
        due(23, "dead(0)", x.dead(0), 1831);
        due(23, "reading", x.reading(5, 0, 0), 0);
    }

    private static void deadLamps() {
        LitWindows x = new LitWindows();
        x.wall(3, 4);
        x.letter(0b11);
        x.letter(0b01);
        due(24, "dead(0): all of 1 + 12 + 66", x.dead(0), 79);
        due(24, "dead(1)", x.dead(1), 0);
        due(24, "dead(2): none", x.dead(2), NONE);
        due(24, "dead(3): none", x.dead(3), NONE);
        x.reading(0, 0, 1);
        due(24, "dead(0): 1, and 1 with another but 0", x.dead(0), 11);
        due(24, "dead(1)", x.dead(1), 1);
        due(24, "dead(2)", x.dead(2), 1);
        due(24, "dead(3)", x.dead(3), 1);
        x.reading(0, 1, NONE);
        due(24, "dead(0): none", x.dead(0), 0);
        due(24, "dead(1): none", x.dead(1), NO);
        due(24, "dead(3): none", x.dead(3), NO);
        due(24, "dead(4)", x.dead(4), BAD);
        due(24, "dead(-1)", x.dead(-1), BAD);
        due(24, "status(1)", x.status(1), 2);
        x.unread();
        x.reading(0, 0, NONE);
        due(24, "dead(0): 0, and 0 with any other", x.dead(0), 12);
        due(24, "dead(2)", x.dead(2), 0);
        x.slack(1);
        due(24, "dead(0): one is near in each", x.dead(0), 0);
        x.unread();
        x.reading(0, 0, 1);
        due(24, "dead(0): 1, and 1 with any other", x.dead(0), 12);
        due(24, "dead(2)", x.dead(2), 1);
        x.unread();
        x.reading(0, 0, 0);
        due(24, "dead(0): all but these", x.dead(0), 67);
    }

    private static void deadPairs() {
        LitWindows x = new LitWindows();
        x.letter(0b111);
        x.letter(0b100);
        x.letter(0b1);
        x.reading(14, 0, 1);
        due(24, "dead(0): a pair alone", x.dead(0), 1);
        due(24, "dead(1)", x.dead(1), 2);
        due(24, "dead(2)", x.dead(2), 14);
        due(24, "dead(3)", x.dead(3), 15);
        x.unread();
        x.reading(0, 2, NONE);
        x.reading(21, 0, NONE);
        due(24, "dead(0): 0 and any of three", x.dead(0), 3);
        due(24, "dead(2)", x.dead(2), 0);
        due(24, "dead(3)", x.dead(3), 21);
        x.wall(4, 5);
        due(24, "dead(0), 20 windows", x.dead(0), 211);
        x.letter(0b001);
        x.letter(0b100);
        x.reading(0, 0, 0);
        x.reading(1, 1, NONE);
        due(24, "dead(2): by its number", x.dead(2), 3);
        due(24, "dead(0): 3, with any but 0", x.dead(0), 19);
    }

    private static void unlikeShapes() {
        int[][] most = {{2}, {4, 2}, {8, 4, 2}, {16, 8, 2, 2}, {32, 16, 4, 2, 2}};
        LitWindows x = new LitWindows();
        for (int k = 1; k <= 5; k++) {
            for (int d = 1; d <= k; d++) due(25, "unlike(" + k + ", " + d + ")", x.unlike(k, d), most[k - 1][d - 1]);
            due(25, "unlike(k, k + 1)", x.unlike(k, k + 1), BAD);
            due(25, "unlike(k, 0)", x.unlike(k, 0), BAD);
        }
        due(25, "unlike(0, 0)", x.unlike(0, 0), BAD);
        due(25, "unlike(6, 1)", x.unlike(6, 1), BAD);
        due(25, "unlike(BIG, SMALL)", x.unlike(BIG, SMALL), BAD);
    }

    private static void images() {
        LitWindows x = owned(5, 4);
        x.letter(5);
        x.refuses(0, 0);
        x.slack(2);
        x.lit(1, 2, true);
        x.reading(0, 0, NONE);
        due(26, "image(-1)", x.image(-1), BAD);
        due(26, "image(2)", x.image(2), BAD);
        due(26, "image(0)", x.image(0), 1);
        due(27, "from(1): none was kept", x.from(1), NO);
        due(27, "from(2)", x.from(2), BAD);
        due(27, "from(-1)", x.from(-1), BAD);
        long kept = x.digest();
        int bad = x.status(0);
        x.has(0, NONE);
        x.refuses(0, NONE);
        x.lit(1, 2, false);
        x.letter(6);
        x.slack(1);
        x.unread();
        due(26, "image(1)", x.image(1), 1);
        long other = x.digest();
        x.wall(12, 5);
        due(27, "from(0)", x.from(0), 1);
        due(27, "digest() from image 0", x.digest(), kept);
        due(27, "from(1)", x.from(1), 1);
        due(27, "digest() from image 1", x.digest(), other);
        x.letter(7);
        due(27, "from(1): an image stays as it was", x.from(1), 1);
        due(27, "digest() from image 1", x.digest(), other);
        due(27, "status(0) is not kept", x.status(0), bad);
        x.type('w', 1);
        x.from(0);
        due(27, "count(5): the text is not kept", x.count(5), 1);
        due(26, "image(1) anew", x.image(1), 1);
        x.clear();
        x.from(1);
        due(26, "digest() from image 1", x.digest(), kept);
        keptInFull();
    }

    private static void keptInFull() {
        LitWindows x = new LitWindows();
        LitWindows same = new LitWindows();
        furnish(x);
        furnish(same);
        x.image(1);
        x.wall(6, 4);
        x.letter(99);
        x.letter(98);
        for (int t = 0; t < 6; t++) x.tenant(1, 2, 3);
        own(x, 3, 0, 5, 4);
        for (int r = 0; r < 6; r++) x.reading(1, 1, 1);
        x.from(1);
        due(27, "digest() from image 1", x.digest(), same.digest());
        due(27, "bought(3, 0, 0)", x.bought(3, 0, 0), same.bought(3, 0, 0));
        due(27, "dead(0)", x.dead(0), same.dead(0));
    }

    private static void furnish(LitWindows x) {
        x.wall(10, 5);
        for (int t = 0; t < 6; t++) {
            x.tenant(5 - t, t + 3, 9 * t + 1);
            own(x, t, t, t + 4, 5);
        }
        for (int l = 0; l < 6; l++) x.letter(7 << l);
        x.refuses(4, 1);
        x.slack(3);
        x.lit(2, 14, true);
        x.lit(0, 57, true);
        for (int r = 0; r < 6; r++) x.reading(r, r, r % 2 == 0 ? r : NONE);
    }

    private static void statuses() {
        LitWindows x = new LitWindows();
        due(28, "status(0)", x.status(0), 0);
        due(28, "status(3)", x.status(3), NONE);
        due(28, "status(-1)", x.status(-1), NONE);
        due(28, "status(0)", x.status(0), 2);
        x.refuses(0, 0);
        x.has(0, 0);
        x.box(1, 0, 0, 0);
        due(28, "status(0): -10 counts", x.status(0), 5);
        x.lit(0, 0, false);
        x.from(0);
        due(28, "status(1)", x.status(1), 2);
        for (int i = 0; i < 8; i++) x.letter(i);
        due(28, "status(2)", x.status(2), 2);
        for (int i = 0; i < 7; i++) x.tenant(0, 0, 0);
        due(28, "status(2)", x.status(2), 3);
        for (int i = 0; i < 26; i++) x.type(0, 8);
        due(28, "status(2)", x.status(2), 4);
        x.wall(3, 4);
        due(28, "status(0): a wall anew keeps it", x.status(0), 5);
        due(28, "status(1)", x.status(1), 2);
        due(28, "status(2)", x.status(2), 4);
    }

    private static void counts() {
        LitWindows x = owned(9, 4);
        x.letter(1);
        x.letter(2);
        x.tenant(0, 0, 0);
        x.tenant(0, 0, 0);
        for (int i = 0; i < 4; i++) x.reading(0, 0, 0);
        x.type(0, 5);
        int[] want = {9, 4, 3, 2, 4, 5};
        for (int what = 0; what < 6; what++) due(29, "count(" + what + ")", x.count(what), want[what]);
        due(29, "count(6)", x.count(6), BAD);
        due(29, "count(-1)", x.count(-1), BAD);
        due(29, "status(0)", x.status(0), 2);
    }

    private static void digests() {
        LitWindows x = new LitWindows();
        x.wall(3, 4);
        x.tenant(3, 4, 5);
        x.letter(6);
        x.letter(7);
        x.tenant(2, 1, 99);
        x.refuses(1, 1);
        x.has(14, 1);
        x.lit(2, 14, true);
        x.slack(1);
        x.reading(0, 1, NONE);
        x.type(0, 3);
        x.count(99);
        long h = 673;
        int[] ahead = {3, 4, 2, 2, 1, 3, 3, 4, 5, NONE, 2, 1, 99, 1};
        for (int v : ahead) h = 31 * h + v;
        for (int i = 0; i < 12; i++) {
            h = 31 * h + (i == 5 ? 1 : NONE);
            for (int hour = 0; hour < 4; hour++) h = 31 * h + (i == 5 && hour == 2 ? 1 : 0);
        }
        int[] behind = {6, 7, 1, 0, 1, NONE};
        for (int v : behind) h = 31 * h + v;
        due(30, "digest()", x.digest(), h);
        due(30, "digest()", x.digest(), h);
        x.lit(3, 14, true);
        due(30, "digest() of another", x.digest() == h ? 1 : 0, 0);
    }
}
