/**
 * The boundary cases of the wall, its tenants, what is read on it, the lamps, the images and the digest: each sentence of
 * the document that names one, just inside and just outside. Refused calls are looked at in RefusalsTest.
 */
public final class WallBoundsTest {
    private static final int NONE = -1, BAD = -2, NO = -3, FULL = -4;
    private static int wrong = 0;

    private static void due(String what, long got, long want) {
        if (got == want) return;
        wrong++;
        System.out.println(what + " answered " + got + ", due is " + want);
    }

    public static void main(String[] args) {
        everySizeOfWall();
        sizesJustOutside();
        nothingIsLeftOfTheOldWall();
        tenantsUpToSix();
        lettersOfTenants();
        windowsOfTenants();
        painsByKindAndHour();
        lettersUpToSix();
        everyShape();
        lightsInEachHour();
        readUpToSlack();
        readOnlyIfNoOtherHasAsFew();
        slackIsHeld();
        everyCellFromBehind();
        saidAtTheEdges();
        noLetterPastTheEdges();
        readingsUpToSix();
        deadAmongAllWindows();
        deadLastWindow();
        deadByNumbers();
        deadInEachReading();
        deadWithReadingsThatTie();
        unlikeShapes();
        imagesOfNothingAndOfAll();
        imagesStay();
        digestOfNothing();
        digestOfAll();
        digestOfSome();
        System.out.println(wrong == 0 ? "the wall keeps its bounds" : wrong + " answers are not as due");
        if (wrong != 0) System.exit(1);
    }

    private static LitWindows wall(int wide, int high) {
        LitWindows x = new LitWindows();
        x.wall(wide, high);
        return x;
    }

    private static void everySizeOfWall() {
        for (int wide = 3; wide <= 12; wide++) {
            for (int high = 4; high <= 5; high++) {
                String size = wide + " wide, " + high + " high: ";
                LitWindows x = new LitWindows();
                due(size + "wall", x.wall(wide, high), 1);
                due(size + "count(0)", x.count(0), wide);
                due(size + "count(1)", x.count(1), high);
                for (int window = -13; window <= 73; window++) {
                    boolean is = window >= 0 && window % 12 < wide && window / 12 < high;
                    boolean box = is && window % 12 <= wide - 3 && window / 12 <= high - 4;
                    due(size + "pains(" + window + ", 0)", x.pains(window, 0), is ? NONE : BAD);
                    due(size + "lit(0, " + window + ", false)", x.lit(0, window, false), is ? NO : BAD);
                    due(size + "shape(0, " + window + ")", x.shape(0, window), box ? 0 : BAD);
                }
                x.letter(0);
                for (int y = -1; y <= high; y++) {
                    due(size + "says(0, " + y + ", 0)", x.says(0, y, 0, false), y >= 0 && y <= high - 4 ? (1 << wide - 2) - 1 : BAD);
                }
                int windows = wide * high;
                due(size + "dead(0)", x.dead(0), 1 + windows + windows * (windows - 1) / 2);
            }
        }
    }

    private static void sizesJustOutside() {
        LitWindows x = wall(5, 4);
        for (int wide = 0; wide <= 15; wide++) {
            for (int high = 0; high <= 8; high++) {
                boolean is = wide >= 3 && wide <= 12 && (high == 4 || high == 5);
                if (is) continue;
                due("wall(" + wide + ", " + high + ")", x.wall(wide, high), BAD);
            }
        }
        due("count(0) behind these", x.count(0), 5);
        due("count(1) behind these", x.count(1), 4);
    }

    private static void nothingIsLeftOfTheOldWall() {
        LitWindows x = new LitWindows();
        fill(x);
        due("wall(12, 5) of one that is so", x.wall(12, 5), 1);
        LitWindows fresh = new LitWindows();
        due("digest() behind wall", x.digest(), fresh.digest());
        for (int t = 0; t < 6; t++) due("tenant behind wall", x.tenant(0, 1, 1), t);
        for (int w = 0; w < 60; w++) due("has(" + w + ", NONE) behind wall", x.has(w, NONE), NONE);
        for (int l = 0; l < 6; l++) due("letter behind wall", x.letter(3 + l), l);
        for (int t = 0; t < 6; t++) due("refuses behind wall", x.refuses(t, NONE), NONE);
        for (int r = 0; r < 6; r++) due("reading behind wall", x.reading(0, 0, 0), r);
        due("slack behind wall", x.slack(2), 0);
    }

    /** All there that can be: 6 TENANTS, LETTERS and READINGS, each WINDOW someone's, some LIT in each hour. */
    private static void fill(LitWindows x) {
        for (int t = 0; t < 6; t++) x.tenant(t, 9 - t, 99 - t);
        for (int l = 0; l < 6; l++) x.letter(4095 >> l);
        for (int t = 0; t < 6; t++) x.refuses(t, 5 - t);
        for (int w = 0; w < 60; w++) x.has(w, w % 6);
        for (int hour = 0; hour < 4; hour++) {
            for (int w = hour; w < 60; w += 5 + hour) x.lit(hour, w, true);
        }
        x.slack(3);
        for (int r = 0; r < 6; r++) x.reading(12 * (r % 2) + 9 - r, r, r == 3 ? NONE : 5 - r);
    }

    private static void tenantsUpToSix() {
        for (int kind = 0; kind <= 5; kind++) {
            LitWindows x = new LitWindows();
            due("count(2), none", x.count(2), 0);
            due("tenant " + kind + " 0 0", x.tenant(kind, 0, 0), 0);
            due("tenant " + kind + " 9 99", x.tenant(kind, 9, 99), 1);
            due("tenant " + kind + " 0 99", x.tenant(kind, 0, 99), 2);
            due("tenant " + kind + " 9 0", x.tenant(kind, 9, 0), 3);
            due("tenant alike", x.tenant(kind, 9, 0), 4);
            due("the sixth tenant", x.tenant(kind, 1, 1), 5);
            due("the seventh tenant", x.tenant(kind, 1, 1), FULL);
            due("count(2), six", x.count(2), 6);
            x.wall(3, 4);
            due("a tenant of another wall", x.tenant(kind, 1, 1), 0);
        }
    }

    private static void lettersOfTenants() {
        LitWindows x = new LitWindows();
        for (int t = 0; t < 6; t++) x.tenant(0, 0, 0);
        for (int t = 0; t < 6; t++) due("refuses(" + t + ", NONE), no letters", x.refuses(t, NONE), NONE);
        for (int l = 0; l < 6; l++) x.letter(l);
        for (int t = 0; t < 6; t++) due("refuses(" + t + ", 0)", x.refuses(t, 0), NONE);
        for (int t = 0; t < 6; t++) due("refuses(" + t + ", 5)", x.refuses(t, 5), 0);
        for (int t = 0; t < 6; t++) due("refuses(" + t + ", 5) again", x.refuses(t, 5), 5);
        for (int t = 0; t < 6; t++) due("refuses(" + t + ", NONE)", x.refuses(t, NONE), 5);
        for (int t = 0; t < 6; t++) due("refuses(" + t + ", NONE) again", x.refuses(t, NONE), NONE);
    }

    private static void windowsOfTenants() {
        LitWindows x = new LitWindows();
        for (int t = 0; t < 6; t++) x.tenant(0, t, 0);
        int[] corners = {0, 11, 48, 59};
        for (int w : corners) {
            due("pains(" + w + ", 0), nobody's", x.pains(w, 0), NONE);
            due("has(" + w + ", 0)", x.has(w, 0), NONE);
            due("has(" + w + ", 5)", x.has(w, 5), 0);
            due("pains(" + w + ", 0)", x.pains(w, 0), 5);
            due("has(" + w + ", 5) again", x.has(w, 5), 5);
            due("has(" + w + ", NONE)", x.has(w, NONE), 5);
            due("has(" + w + ", NONE) again", x.has(w, NONE), NONE);
            due("pains(" + w + ", 0), nobody's again", x.pains(w, 0), NONE);
        }
        for (int w = 0; w < 60; w++) due("has(" + w + ", 3)", x.has(w, 3), NONE);
        for (int w = 0; w < 60; w++) due("has(" + w + ", NONE), all one's", x.has(w, NONE), 3);
    }

    private static void painsByKindAndHour() {
        int[] pain = {0, 1, 9};
        // By PAIN, by KIND: in hours 0 and 1, in hours 2 and 3.
        int[][][] want = {
            {{0, 0}, {0, 0}, {0, 0}, {3, 3}, {3, 3}, {0, 0}},
            {{1, 1}, {1, 2}, {0, 1}, {4, 5}, {4, 5}, {0, 0}},
            {{9, 9}, {9, 18}, {0, 9}, {12, 21}, {12, 21}, {0, 0}}};
        for (int p = 0; p < 3; p++) {
            LitWindows x = new LitWindows();
            x.letter(0);
            for (int kind = 0; kind <= 5; kind++) {
                x.tenant(kind, pain[p], 50);
                x.has(59 - kind, kind);
                x.refuses(kind, 0);
                for (int hour = 0; hour < 4; hour++) {
                    String what = "kind " + kind + ", pain " + pain[p] + ", hour " + hour;
                    int due = want[p][kind][hour / 2];
                    due(what + ", to be lit", x.pains(59 - kind, hour), kind == 4 ? NONE : due);
                    x.lit(hour, 59 - kind, true);
                    due(what + ", to be put out", x.pains(59 - kind, hour), due);
                    x.lit(hour, 59 - kind, false);
                }
            }
        }
    }

    private static void lettersUpToSix() {
        LitWindows x = new LitWindows();
        due("reads(0), no letters", x.reads(0, false), NONE);
        due("letter(0)", x.letter(0), 0);
        due("letter(4095)", x.letter(4095), 1);
        for (int l = 2; l < 6; l++) due("letter(" + l + ")", x.letter(l), l);
        due("a seventh letter", x.letter(9), FULL);
        due("a seventh letter that is alike the first", x.letter(0), BAD);
        due("a seventh letter that is alike the last", x.letter(5), BAD);
        due("count(3)", x.count(3), 6);
        due("reads the sixth", x.reads(5, false), 5);
        due("reads(9)", x.reads(9, false), NONE);
    }

    private static void everyShape() {
        for (int shape = 0; shape <= 4095; shape++) {
            LitWindows x = new LitWindows();
            due("letter(" + shape + ")", x.letter(shape), 0);
            due("reads(" + shape + ")", x.reads(shape, false), 0);
            due("letter(" + shape + ") again", x.letter(shape), BAD);
            due("reads(" + (shape ^ 1) + ")", x.reads(shape ^ 1, false), NONE);
        }
    }

    private static void lightsInEachHour() {
        for (int hour = 0; hour < 4; hour++) {
            LitWindows x = new LitWindows();
            for (int w : new int[] {0, 11, 48, 59}) {
                due("lit(" + hour + ", " + w + ", false), none yet", x.lit(hour, w, false), NO);
                due("lit(" + hour + ", " + w + ", true)", x.lit(hour, w, true), 1);
                due("lit(" + hour + ", " + w + ", true) again", x.lit(hour, w, true), NO);
                for (int other = 0; other < 4; other++) {
                    if (other != hour) due("lit(" + other + ", " + w + ", false)", x.lit(other, w, false), NO);
                }
            }
            due("shape of the first box", x.shape(hour, 0), 1);
            due("shape of the last box", x.shape(hour, 21), 2048);
            due("lit(" + hour + ", 59, false)", x.lit(hour, 59, false), 1);
            due("lit(" + hour + ", 59, false) again", x.lit(hour, 59, false), NO);
        }
    }

    private static void readUpToSlack() {
        for (int slack = 0; slack <= 3; slack++) {
            LitWindows x = new LitWindows();
            x.letter(0);
            x.slack(slack);
            for (int cells = 0; cells <= 12; cells++) {
                int shape = (1 << cells) - 1;
                int want = cells <= slack ? 0 : NONE;
                String what = cells + " differ, slack " + slack;
                due(what + ", the first ones", x.reads(shape, false), want);
                due(what + ", the last ones", x.reads(shape << 12 - cells, true), want);
                if (cells > 0) x.lit(1, 12 * ((cells - 1) / 3) + (cells - 1) % 3, true);
                due(what + ", on the wall", x.says(1, 0, 0, false) & 1, want == 0 ? 1 : 0);
            }
        }
    }

    private static void readOnlyIfNoOtherHasAsFew() {
        int[][] orders = {{0, 3, 13}, {0, 13, 3}, {3, 0, 13}, {3, 13, 0}, {13, 0, 3}, {13, 3, 0}};
        for (int[] order : orders) {
            LitWindows x = new LitWindows();
            for (int shape : order) x.letter(shape);
            int third = order[0] == 13 ? 0 : order[1] == 13 ? 1 : 2;
            x.slack(3);
            due("reads(1): 0 and 3 have one, 13 two", x.reads(1, false), NONE);
            due("reads(5): 0 and 3 have two, 13 one", x.reads(5, false), third);
            due("reads(7): 3 has one, 13 two, 0 three", x.reads(7, false), order[0] == 3 ? 0 : order[1] == 3 ? 1 : 2);
            due("reads(13)", x.reads(13, false), third);
            x.slack(1);
            due("reads(1), slack 1", x.reads(1, false), NONE);
            x.slack(0);
            due("reads(1), slack 0", x.reads(1, false), NONE);
        }
        LitWindows six = new LitWindows();
        for (int l = 0; l < 6; l++) six.letter(1 << l);
        six.slack(3);
        due("reads(0): all six have one", six.reads(0, false), NONE);
        due("reads(3): two have one, four three", six.reads(3, false), NONE);
        due("reads(32 + 128): the sixth has one", six.reads(160, false), 5);
        due("reads(3840): all have five", six.reads(3840, false), NONE);
    }

    private static void slackIsHeld() {
        LitWindows x = new LitWindows();
        int was = 0;
        for (int v : new int[] {0, 3, 2, 1, 1, 3, 0}) {
            due("slack(" + v + ")", x.slack(v), was);
            was = v;
        }
    }

    private static void everyCellFromBehind() {
        for (int line = 0; line < 4; line++) {
            for (int column = 0; column < 3; column++) {
                LitWindows x = new LitWindows();
                x.letter(1 << 3 * line + column);
                for (int seen = 0; seen < 12; seen++) {
                    int fromHarbour = seen == 3 * line + column ? 0 : NONE;
                    int fromBehind = seen == 3 * line + 2 - column ? 0 : NONE;
                    due("reads(" + (1 << seen) + ", false)", x.reads(1 << seen, false), fromHarbour);
                    due("reads(" + (1 << seen) + ", true)", x.reads(1 << seen, true), fromBehind);
                }
            }
        }
    }

    // One window is lit: a box with it left above is read from the harbour, one with it right above from behind.
    private static void saidAtTheEdges() {
        for (int wide = 3; wide <= 12; wide++) {
            for (int column = 0; column < wide; column++) {
                LitWindows x = wall(wide, 5);
                x.letter(1);
                x.lit(3, 12 + column, true);
                String what = wide + " wide, lit at " + column;
                due(what + ", harbour", x.says(3, 1, 0, false), column <= wide - 3 ? 1 << column : 0);
                due(what + ", behind", x.says(3, 1, 0, true), column >= 2 ? 1 << column - 2 : 0);
                due(what + ", a line above", x.says(3, 0, 0, false) | x.says(3, 0, 0, true), 0);
                due(what + ", another hour", x.says(2, 1, 0, false) | x.says(2, 1, 0, true), 0);
            }
        }
    }

    /** The letter would stand only on a box that is partly past the edge: it is said nowhere. */
    private static void noLetterPastTheEdges() {
        for (int wide = 3; wide <= 12; wide++) {
            for (int high = 4; high <= 5; high++) {
                nowhere(wide, high, 1, wide - 2, 0);
                nowhere(wide, high, 1, wide - 1, high - 4);
                nowhere(wide, high, 4, 0, 0);
                nowhere(wide, high, 4, 1, high - 4);
                nowhere(wide, high, 8, 0, 0);
                nowhere(wide, high, 1, 0, high - 3);
                nowhere(wide, high, 2048, 2, 2);
            }
        }
        LitWindows x = new LitWindows();
        x.letter(7);
        for (int w : new int[] {11, 12, 13, 34, 35, 36}) x.lit(0, w, true);
        due("bars(1, 0): a row does not go on in the next", x.bars(1, 0), 3);
        due("says(0, 0, 0): a row does not go on in the next", x.says(0, 0, 0, false), 0);
        due("says(0, 1, 0): a row does not go on in the next", x.says(0, 1, 0, false), 0);
    }

    private static void nowhere(int wide, int high, int shape, int column, int line) {
        String what = "shape " + shape + " past the edge of " + wide + " by " + high + ", lit at " + column + ", " + line + ": ";
        LitWindows x = wall(wide, high);
        x.letter(shape);
        x.lit(2, 12 * line + column, true);
        for (int y = 0; y <= high - 4; y++) due(what + "says", x.says(2, y, 0, false), 0);
        due(what + "least", x.least(1, 2), NONE);
        due(what + "box", x.box(1, 2, 0, 0), -5);
        due(what + "two", x.two(1, 2, 1, 2), NONE);
        due(what + "bought", x.bought(1, 2, 0), NONE);
        due(what + "can", x.can(1, 2), 0);
        due(what + "bars", x.bars(1, 2), high == 5 ? 3 : 1);
    }

    private static void readingsUpToSix() {
        LitWindows x = wall(5, 5);
        for (int l = 0; l < 6; l++) x.letter(l);
        int[] windows = {0, 2, 12, 14, 0, 0};
        for (int r = 0; r < 6; r++) due("reading " + r, x.reading(windows[r], r == 4 ? 5 : 0, r == 5 ? NONE : r), r);
        due("a seventh reading", x.reading(0, 0, 0), FULL);
        due("count(4)", x.count(4), 6);
        due("unread()", x.unread(), 6);
        due("count(4), none", x.count(4), 0);
        due("unread(), none", x.unread(), 0);
        due("a reading again", x.reading(14, 5, NONE), 0);
        due("a reading alike", x.reading(14, 5, NONE), 1);
    }

    private static void deadAmongAllWindows() {
        LitWindows x = new LitWindows();
        x.letter(1);
        x.letter(0);
        int[] left = {1831, 1771, 1712, 1654, 1597, 1541, 1486};
        due("dead(0), no readings", x.dead(0), left[0]);
        due("dead(1), no readings", x.dead(1), 0);
        due("dead(2), no readings", x.dead(2), NONE);
        due("dead(3), no readings", x.dead(3), NONE);
        for (int r = 0; r < 6; r++) {
            x.reading(r, 0, 0);
            due("dead(0), " + (r + 1) + " that are not dark", x.dead(0), left[r + 1]);
            due("dead(1)", x.dead(1), 0);
        }
    }

    private static void deadLastWindow() {
        LitWindows x = new LitWindows();
        x.letter(2048);
        x.letter(0);
        x.lit(0, 59, true);
        x.reading(21, 0, 1);
        due("dead(0): 59, and 59 with any other", x.dead(0), 60);
        due("dead(1)", x.dead(1), 1);
        due("dead(2)", x.dead(2), 59);
        due("dead(3)", x.dead(3), 59);
        x.reading(9, 0, 1);
        due("dead(0): 47 with 59", x.dead(0), 1);
        due("dead(1), two", x.dead(1), 2);
        due("dead(2), two", x.dead(2), 47);
        due("dead(3), two", x.dead(3), 59);
        x.reading(0, 0, 1);
        due("dead(0): three are one too many", x.dead(0), 0);
        for (int what = 1; what <= 3; what++) due("dead(" + what + "), no set", x.dead(what), NO);
        x.unread();
        x.reading(21, 1, 1);
        due("dead(0): dark as it was to be", x.dead(0), 1831);
    }

    private static void deadByNumbers() {
        LitWindows x = new LitWindows();
        x.letter(3);
        x.reading(21, 0, NONE);
        due("dead(0): 21, 22, and one of these with another", x.dead(0), 119);
        due("dead(1): one ahead of two", x.dead(1), 1);
        due("dead(2): the least one", x.dead(2), 21);
        due("dead(3)", x.dead(3), 21);
        x.reading(0, 0, NONE);
        due("dead(0): four pairs", x.dead(0), 4);
        due("dead(1)", x.dead(1), 2);
        due("dead(2)", x.dead(2), 0);
        due("dead(3)", x.dead(3), 21);
        x.reading(1, 0, NONE);
        due("dead(0): 1 is in both, with 21 or 22", x.dead(0), 2);
        due("dead(2)", x.dead(2), 1);
        due("dead(3)", x.dead(3), 21);
        x.unread();
        x.reading(0, 0, 0);
        x.reading(21, 0, NONE);
        due("dead(0): not 0, not 1", x.dead(0), 2 + 1 + 2 * 56);
        due("dead(2)", x.dead(2), 21);
        x.slack(1);
        due("dead(0), slack 1: both of 21 and 22", x.dead(0), 1);
        due("dead(3), slack 1", x.dead(3), 22);
    }

    private static void deadInEachReading() {
        int[] shapes = {2048, 1, 3, 7, 15, 31};
        LitWindows x = wall(3, 4);
        for (int shape : shapes) x.letter(shape);
        x.reading(0, 5, 4);
        due("dead(0): 13, and with one of seven others", x.dead(0), 8);
        due("dead(2): bit 4", x.dead(2), 13);
        for (int l = 0; l < 4; l++) x.reading(0, l, l);
        due("dead(0), five readings: not the last cell", x.dead(0), 7);
        due("dead(2)", x.dead(2), 13);
        x.reading(0, 4, 3);
        due("dead(0), the sixth: 12 too", x.dead(0), 0);
        x.unread();
        x.reading(0, 5, 3);
        due("dead(0): 12 with 13", x.dead(0), 1);
        due("dead(2)", x.dead(2), 12);
        due("dead(3)", x.dead(3), 13);
    }

    private static void deadWithReadingsThatTie() {
        LitWindows x = wall(3, 4);
        x.letter(3);
        x.slack(1);
        x.reading(0, 0, NONE);
        due("dead(0): both", x.dead(0), 1);
        x.letter(6);
        due("dead(0): 0 makes 6 as near as 3", x.dead(0), 12);
        due("dead(1)", x.dead(1), 1);
        due("dead(2)", x.dead(2), 0);
    }

    private static void unlikeShapes() {
        int[][] most = {{2}, {4, 2}, {8, 4, 2}, {16, 8, 2, 2}, {32, 16, 4, 2, 2}};
        LitWindows x = new LitWindows();
        for (int k = -1; k <= 7; k++) {
            for (int d = -1; d <= 7; d++) {
                boolean is = k >= 1 && k <= 5 && d >= 1 && d <= k;
                due("unlike(" + k + ", " + d + ")", x.unlike(k, d), is ? most[k - 1][d - 1] : BAD);
            }
        }
    }

    private static void imagesOfNothingAndOfAll() {
        LitWindows x = new LitWindows();
        long nothing = x.digest();
        for (int i = 0; i < 2; i++) due("from(" + i + "), none kept", x.from(i), NO);
        due("image(1) of nothing", x.image(1), 1);
        due("from(0), only 1 kept", x.from(0), NO);
        fill(x);
        long all = x.digest();
        due("image(0) of all", x.image(0), 1);
        due("from(1)", x.from(1), 1);
        due("digest() of nothing", x.digest(), nothing);
        due("from(0)", x.from(0), 1);
        due("digest() of all", x.digest(), all);
        due("a seventh tenant from an image", x.tenant(0, 0, 0), FULL);
        due("a seventh letter from an image", x.letter(1), FULL);
        due("a seventh reading from an image", x.reading(0, 0, 0), FULL);
        due("image(1) anew", x.image(1), 1);
        x.wall(3, 4);
        due("from(1) anew", x.from(1), 1);
        due("digest() of the one anew", x.digest(), all);
    }

    private static void imagesStay() {
        LitWindows x = new LitWindows();
        fill(x);
        long all = x.digest();
        x.image(0);
        x.image(1);
        for (int t = 0; t < 6; t++) x.refuses(t, NONE);
        for (int w = 0; w < 60; w++) x.has(w, NONE);
        for (int w = 0; w < 60; w++) x.lit(3, w, true);
        x.slack(0);
        x.unread();
        x.from(0);
        due("digest() behind all changes", x.digest(), all);
        x.wall(12, 5);
        for (int t = 0; t < 6; t++) x.tenant(5 - t, t, t);
        for (int l = 0; l < 6; l++) x.letter(1 + l);
        for (int r = 0; r < 6; r++) x.reading(14, 2, 2);
        x.from(1);
        due("digest() behind another wall", x.digest(), all);
        x.read();
        x.type(0x7761_6c6cL, 4);
        x.from(1);
        due("count(5): THE TEXT is not kept", x.count(5), 4);
        due("clear()", x.clear(), 4);
        due("digest() behind read()", x.digest(), all);
        x.image(0);
        due("status(0) is not kept", x.status(0), 0);
        x.slack(4);
        x.from(0);
        due("status(0) stays", x.status(0), 1);
    }

    private static long digest(long h, int... values) {
        for (int v : values) h = 31 * h + v;
        return h;
    }

    private static void digestOfNothing() {
        LitWindows x = new LitWindows();
        long h = digest(673, 12, 5, 0, 0, 0, 0);
        for (int w = 0; w < 60; w++) h = digest(h, NONE, 0, 0, 0, 0);
        due("digest() of a new object", x.digest(), digest(h, 0));
        x.wall(3, 4);
        h = digest(673, 3, 4, 0, 0, 0, 0);
        for (int w = 0; w < 12; w++) h = digest(h, NONE, 0, 0, 0, 0);
        due("digest() of the least wall", x.digest(), digest(h, 0));
    }

    private static void digestOfAll() {
        LitWindows x = new LitWindows();
        fill(x);
        for (int i = 0; i < 25; i++) x.type(0, 8);
        long h = digest(673, 12, 5, 6, 6, 6, 200);
        for (int t = 0; t < 6; t++) h = digest(h, t, 9 - t, 99 - t, 5 - t);
        for (int w = 0; w < 60; w++) {
            h = digest(h, w % 6);
            for (int hour = 0; hour < 4; hour++) h = digest(h, w >= hour && (w - hour) % (5 + hour) == 0 ? 1 : 0);
        }
        h = digest(h, 4095, 2047, 1023, 511, 255, 127, 3);
        h = digest(h, 9, 0, 5, 20, 1, 4, 7, 2, 3, 18, 3, NONE, 5, 4, 1, 16, 5, 0);
        due("digest() of all", x.digest(), h);
    }

    private static void digestOfSome() {
        for (int tenants = 0; tenants <= 2; tenants++) {
            for (int letters = 0; letters <= 2; letters++) {
                int readings = letters == 0 ? 0 : 3 - letters;
                LitWindows x = wall(4, 5);
                long h = digest(673, 4, 5, tenants, letters, readings, 0);
                for (int t = 0; t < tenants; t++) x.tenant(3 + t, 2, 1);
                for (int l = 0; l < letters; l++) x.letter(44 + l);
                for (int r = 0; r < readings; r++) x.reading(13, letters - 1, NONE);
                for (int t = 0; t < tenants; t++) h = digest(h, 3 + t, 2, 1, NONE);
                for (int w = 0; w < 20; w++) h = digest(h, NONE, 0, 0, 0, 0);
                for (int l = 0; l < letters; l++) h = digest(h, 44 + l);
                h = digest(h, 0);
                for (int r = 0; r < readings; r++) h = digest(h, 13, letters - 1, NONE);
                due("digest() of " + tenants + " tenants, " + letters + " letters", x.digest(), h);
            }
        }
    }
}
