/**
 * The boundary cases of the words: which numbers are words, where one has room, who changes a window, what is least of
 * like ones, and what can not be. Refused calls are looked at in RefusalsTest, too.
 */
public final class WordBoundsTest {
    private static final int NONE = -1, BAD = -2;
    private static final int PLAIN = 0, SLEEPS = 1, WORKS = 2, OLD = 3, STUBBORN = 4, KIND = 5;
    private static int wrong = 0;

    private static void due(String what, long got, long want) {
        if (got == want) return;
        wrong++;
        System.out.println(what + " answered " + got + ", due is " + want);
    }

    public static void main(String[] args) {
        everyNumber();
        hoursAndNobody();
        roomForAWord();
        oneFreeColumnAtLeast();
        fromLeftToRight();
        allBoxesWithOneTop();
        oneWindowToLight();
        oneWindowToPutOut();
        whoRefusesALetterOfTheWord();
        slackSparesPains();
        slackLetsNobodySay();
        shapeOfLeastPains();
        shapeOfLeastBits();
        shapeReadAsItsLetter();
        mostPains();
        painsOfEachCell();
        leastTopOfLikeOnes();
        mostToTheLeftOfLikeOnes();
        onlyThePlaceAt();
        boxesOfAWord();
        twoByTheirShapes();
        twoInTheBestPlaces();
        twoThatCanNotBe();
        twoWordsWithTheirOwnRefusals();
        boughtFromNobody();
        boughtFromAll();
        boughtForLeastPay();
        boughtOfLikePay();
        rowsThatCanBeSaid();
        barredTops();
        System.out.println(wrong == 0 ? "the words keep their bounds" : wrong + " answers are not as due");
        if (wrong != 0) System.exit(1);
    }

    private static LitWindows wall(int wide, int high) {
        LitWindows x = new LitWindows();
        x.wall(wide, high);
        return x;
    }

    private static void own(LitWindows x, int tenant, int fromColumn, int toColumn, int high) {
        for (int y = 0; y < high; y++) {
            for (int column = fromColumn; column <= toColumn; column++) x.has(12 * y + column, tenant);
        }
    }

    /** A wall that one tenant owns wholly. */
    private static LitWindows owned(int wide, int high, int kind, int pain) {
        LitWindows x = wall(wide, high);
        x.tenant(kind, pain, 7);
        own(x, 0, 0, wide - 1, high);
        return x;
    }

    private static boolean isWord(int number, int letters) {
        String digits = String.valueOf(number);
        if (number <= 0 || digits.length() > 3) return false;
        for (char digit : digits.toCharArray()) {
            if (digit < '1' || digit > '0' + letters) return false;
        }
        return true;
    }

    private static void everyNumber() {
        for (int letters = 0; letters <= 6; letters++) {
            for (int number = -12; number <= 1112; number++) {
                LitWindows x = wall(11, 4);
                for (int l = 0; l < letters; l++) x.letter(l);
                String what = "the number " + number + " of " + letters + " letters: ";
                boolean is = isWord(number, letters);
                due(what + "least", x.least(number, 0) == BAD ? 0 : 1, is ? 1 : 0);
                due(what + "box", x.box(number, 0, 3, 0), is ? -5 : -10);
                due(what + "two", x.two(number, 0, 1, 0) == BAD ? 0 : 1, is ? 1 : 0);
                due(what + "two, the second", x.two(1, 0, number, 0) == BAD ? 0 : 1, is ? 1 : 0);
                due(what + "bought", x.bought(number, 0, 0) == BAD ? 0 : 1, is ? 1 : 0);
                due(what + "bars", x.bars(number, 0) == BAD ? 0 : 1, is ? 1 : 0);
            }
        }
    }

    private static void hoursAndNobody() {
        LitWindows x = new LitWindows();
        x.letter(0);
        x.letter(1);
        for (int hour = 0; hour < 4; hour++) {
            due("least(1), as it is by nature", x.least(1, hour), 0);
            due("least(2), nobody", x.least(2, hour), NONE);
            due("box(2), nobody", x.box(2, hour, 0, 0), -5);
            due("two(1, 2), nobody", x.two(1, hour, 2, 3 - hour), NONE);
            due("bought(1), nobody", x.bought(1, hour, 0), 0);
            due("bought(1), nobody, bits", x.bought(1, hour, 1), 0);
            due("bought(2), nobody", x.bought(2, hour, 0), NONE);
            due("bought(2), nobody, bits", x.bought(2, hour, 1), NONE);
            due("can(1), nobody", x.can(1, hour), 1);
            due("can(2), nobody", x.can(2, hour), 1);
            due("bars(2), nobody", x.bars(2, hour), 3);
        }
    }

    private static void roomForAWord() {
        int[] words = {1, 11, 111};
        for (int wide = 3; wide <= 12; wide++) {
            for (int n = 1; n <= 3; n++) {
                LitWindows x = owned(wide, 4 + wide % 2, PLAIN, 1);
                x.letter(1);
                int word = words[n - 1];
                boolean room = wide >= 4 * n - 1;
                String what = n + " letters, " + wide + " wide: ";
                due(what + "least", x.least(word, 0), room ? n : NONE);
                due(what + "box", x.box(word, 0, n - 1, 0), room ? 4 * n - 4 : -5);
                due(what + "box, one more", x.box(word, 0, n, 0), -5);
                due(what + "two", x.two(word, 0, word, 1), room ? 0 : NONE);
                due(what + "two, the first alone", x.two(1, 0, word, 1), room ? n - 1 : NONE);
                due(what + "two, the second alone", x.two(word, 0, 1, 1), room ? n - 1 : NONE);
                due(what + "bought", x.bought(word, 0, 0), room ? 7 : NONE);
                due(what + "bars", x.bars(word, 0), room ? NONE : 0);
                if (n < 3) due(what + "can", x.can(n, 0), room ? 1 : 0);
            }
        }
    }

    // Nobody may change a window: a letter stands only where it is by nature.
    private static void oneFreeColumnAtLeast() {
        int[][] lit = {{0, 2, 3, 5}, {0, 2, 4, 6}, {0, 2, 5, 7}, {7, 9, 0, 2}};
        int[] second = {NONE, 4, 5, 7};
        LitWindows x = wall(10, 4);
        x.letter(5);
        for (int hour = 0; hour < 4; hour++) {
            for (int column : lit[hour]) x.lit(hour, column, true);
            boolean room = second[hour] != NONE;
            String what = "the next box " + second[hour] + " on: ";
            due(what + "least", x.least(11, hour), room ? 0 : NONE);
            due(what + "box", x.box(11, hour, 0, 0), room ? 0 : -5);
            due(what + "the second box", x.box(11, hour, 1, 0), room ? second[hour] : -5);
            due(what + "two", x.two(11, hour, 11, hour), room ? 0 : NONE);
            due(what + "bought", x.bought(11, hour, 0), room ? 0 : NONE);
            due(what + "can", x.can(2, hour), room ? 1 : 0);
            due(what + "bars", x.bars(11, hour), room ? NONE : 0);
            due(what + "bars of one letter", x.bars(1, hour), NONE);
        }
        LitWindows three = wall(12, 4);
        three.letter(5);
        for (int column : new int[] {0, 2, 4, 6, 8, 10}) three.lit(0, column, true);
        for (int column : new int[] {0, 2, 4, 6, 7, 9}) three.lit(1, column, true);
        for (int column : new int[] {1, 3, 5, 7, 9, 11}) three.lit(2, column, true);
        for (int hour = 0; hour < 3; hour++) {
            due("three boxes: least", three.least(111, hour), hour == 1 ? NONE : 0);
            due("three boxes: bought", three.bought(111, hour, 0), hour == 1 ? NONE : 0);
            due("three boxes: bars", three.bars(111, hour), hour == 1 ? 0 : NONE);
            for (int i = 0; i < 3; i++) due("three boxes: box", three.box(111, hour, i, 0), hour == 1 ? -5 : hour / 2 + 4 * i);
        }
        due("three boxes: two", three.two(111, 0, 111, 2), 12);
        due("three boxes: two, one can not be", three.two(111, 0, 111, 1), NONE);
    }

    private static void fromLeftToRight() {
        LitWindows x = wall(7, 4);
        x.letter(5);
        x.letter(3);
        for (int column : new int[] {0, 1, 4, 6}) x.lit(3, column, true);
        due("least(21), as it stands", x.least(21, 3), 0);
        due("least(12), the other way about", x.least(12, 3), NONE);
        due("box(21), the first", x.box(21, 3, 0, 0), 0);
        due("box(21), the second", x.box(21, 3, 1, 0), 4);
        due("two(21, 12)", x.two(21, 3, 12, 3), NONE);
        due("bought(12)", x.bought(12, 3, 1), NONE);
        due("can(2)", x.can(2, 3), 1);
        due("bars(12): its first has its place", x.bars(12, 3), 0);
    }

    private static void allBoxesWithOneTop() {
        LitWindows x = wall(7, 5);
        x.letter(1);
        x.letter(2);
        x.lit(0, 0, true);
        x.lit(0, 17, true);
        x.lit(1, 0, true);
        x.lit(1, 5, true);
        due("says(0, 0, 0): the first above", x.says(0, 0, 0, false), 1);
        due("says(0, 1, 1): the second below", x.says(0, 1, 1, false), 16);
        due("least(12): not with one y", x.least(12, 0), NONE);
        due("two(12, 12): not with one y", x.two(12, 0, 12, 1), NONE);
        due("bought(12): not with one y", x.bought(12, 0, 0), NONE);
        due("can(2): not with one y", x.can(2, 0), 0);
        due("bars(12): its first stands above", x.bars(12, 0), 2);
        due("bars(21): its first stands below", x.bars(21, 0), 1);
        due("least(12): with one y", x.least(12, 1), 0);
        due("box(12): with one y", x.box(12, 1, 1, 0), 4);
        due("two(12, 12): with one y", x.two(12, 1, 12, 1), 0);
    }

    /** What each call tells where all that a letter wants, on the least wall, is one window's change. */
    private static void oneChange(String who, LitWindows x, int hour, int pains) {
        boolean may = pains != NONE;
        due(who + ", hour " + hour + ": least", x.least(1, hour), pains);
        due(who + ", hour " + hour + ": box", x.box(1, hour, 0, 0), may ? 0 : -5);
        due(who + ", hour " + hour + ": shape", x.box(1, hour, 0, 1), may ? 1 : -5);
        due(who + ", hour " + hour + ": two", x.two(1, hour, 1, hour), may ? 0 : NONE);
        due(who + ", hour " + hour + ": bought", x.bought(1, hour, 0), may ? 7 : NONE);
        due(who + ", hour " + hour + ": bought, bits", x.bought(1, hour, 1), may ? 1 : NONE);
        due(who + ", hour " + hour + ": can", x.can(1, hour), may ? 2 : 1);
        due(who + ", hour " + hour + ": bars", x.bars(1, hour), may ? NONE : 1);
    }

    /** Two letters, of which the second stands there by nature; the first has one window more, or one less. */
    private static LitWindows oneWindow(int kind, boolean toLight) {
        LitWindows x = wall(3, 4);
        x.letter(1);
        x.letter(toLight ? 0 : 33);
        x.tenant(kind, 4, 7);
        x.tenant(PLAIN, 1, 1);
        x.has(toLight ? 0 : 14, 0);
        for (int hour = 0; hour < 4; hour++) {
            if (!toLight) x.lit(hour, 0, true);
            if (!toLight) x.lit(hour, 14, true);
        }
        return x;
    }

    private static void oneWindowToLight() {
        int[][] pains = {{4, 4}, {4, 8}, {0, 4}, {7, 11}, {NONE, NONE}, {0, 0}};
        for (int kind = PLAIN; kind <= KIND; kind++) {
            LitWindows x = oneWindow(kind, true);
            for (int hour = 0; hour < 4; hour++) oneChange("to be lit, kind " + kind, x, hour, pains[kind][hour / 2]);
            x.has(0, NONE);
            for (int hour = 0; hour < 4; hour++) oneChange("to be lit, nobody's", x, hour, NONE);
        }
    }

    private static void oneWindowToPutOut() {
        int[][] pains = {{4, 4}, {4, 8}, {0, 4}, {7, 11}, {7, 11}, {0, 0}};
        for (int kind = PLAIN; kind <= KIND; kind++) {
            LitWindows x = oneWindow(kind, false);
            for (int hour = 0; hour < 4; hour++) oneChange("to be put out, kind " + kind, x, hour, pains[kind][hour / 2]);
            x.has(14, NONE);
            for (int hour = 0; hour < 4; hour++) oneChange("to be put out, nobody's", x, hour, NONE);
        }
    }

    private static void whoRefusesALetterOfTheWord() {
        int[] pains = {4, 4, 0, 7, 7, 0};
        for (int kind = PLAIN; kind <= KIND; kind++) {
            LitWindows x = oneWindow(kind, false);
            x.refuses(0, 0);
            for (int hour = 0; hour < 4; hour++) oneChange("who refuses, kind " + kind, x, hour, NONE);
            due("pains(14, 0): no word asked", x.pains(14, 0), pains[kind]);
            x.refuses(0, 1);
            oneChange("who refuses another letter, kind " + kind, x, 0, pains[kind]);
            x.refuses(0, NONE);
            oneChange("who refuses none, kind " + kind, x, 0, pains[kind]);
        }
        LitWindows x = owned(11, 4, PLAIN, 1);
        for (int l = 0; l < 4; l++) x.letter(1 << l);
        for (int place = 0; place < 3; place++) {
            x.refuses(0, place);
            due("least(123): one refuses letter " + place, x.least(123, 0), NONE);
            due("two(123): one refuses letter " + place, x.two(123, 0, 4, 0), NONE);
            due("bought(123): one refuses letter " + place, x.bought(123, 0, 0), NONE);
            due("bars(123): one refuses letter " + place, x.bars(123, 0), 1);
        }
        for (int l = 0; l < 4; l++) {
            x.refuses(0, l);
            for (int word = 1; word <= 4; word++) due("least: one refuses letter " + l, x.least(word, 0), word == l + 1 ? NONE : 1);
        }
        due("least(123): one refuses another", x.least(123, 0), 3);
        due("bought(123): one refuses another", x.bought(123, 0, 1), 1);
        due("can(1): one refuses one of four", x.can(1, 0), 3);
        due("can(2): one refuses one of four", x.can(2, 0), 9);
    }

    private static void slackSparesPains() {
        for (int slack = 0; slack <= 3; slack++) {
            LitWindows x = owned(3, 4, PLAIN, 2);
            x.letter(0);
            x.slack(slack);
            for (int cells = 0; cells <= 12; cells++) {
                if (cells > 0) x.lit(0, 12 * ((cells - 1) / 3) + (cells - 1) % 3, true);
                String what = cells + " lit, slack " + slack + ": ";
                int left = Math.min(cells, slack);
                due(what + "least", x.least(1, 0), 2 * (cells - left));
                due(what + "shape", x.box(1, 0, 0, 1), (1 << left) - 1);
            }
        }
    }

    private static void slackLetsNobodySay() {
        for (int slack = 0; slack <= 3; slack++) {
            LitWindows x = wall(3, 4);
            x.letter(4095);
            x.slack(slack);
            for (int cells = 1; cells <= 12; cells++) {
                x.lit(2, 12 * ((cells - 1) / 3) + (cells - 1) % 3, true);
                boolean said = 12 - cells <= slack;
                String what = cells + " of 12 lit, slack " + slack + ": ";
                due(what + "least", x.least(1, 2), said ? 0 : NONE);
                due(what + "bought", x.bought(1, 2, 0), said ? 0 : NONE);
                due(what + "can", x.can(1, 2), said ? 1 : 0);
                due(what + "bars", x.bars(1, 2), said ? NONE : 1);
                due(what + "two: just the shape", x.two(1, 2, 1, 2), cells == 12 ? 0 : NONE);
            }
        }
    }

    private static void shapeOfLeastPains() {
        LitWindows x = owned(3, 4, PLAIN, 1);
        x.letter(3);
        x.slack(1);
        for (int w : new int[] {0, 1, 2}) x.lit(0, w, true);
        due("least: one too many is no pains", x.least(1, 0), 0);
        due("shape: it stays, though others have less bits", x.box(1, 0, 0, 1), 7);
        x.tenant(WORKS, 9, 0);
        x.has(2, 1);
        due("shape: nothing for one who works, of like ones", x.box(1, 0, 0, 1), 3);
        x.tenant(OLD, 0, 0);
        x.has(1, 2);
        x.lit(3, 14, true);
        due("least in hour 3: light 0, put out 14", x.least(1, 3), 2);
        due("shape in hour 3", x.box(1, 3, 0, 1), 1);
        x.has(0, 2);
        due("least in hour 3: light 0 or 1, put out 14", x.least(1, 3), 4);
        due("shape in hour 3, of like ones", x.box(1, 3, 0, 1), 1);
        x.has(1, 0);
        due("least in hour 3: light 1, put out 14", x.least(1, 3), 2);
        due("shape in hour 3, of more bits", x.box(1, 3, 0, 1), 2);
        x.has(14, NONE);
        due("least in hour 3: 14 must stay", x.least(1, 3), 4);
        due("shape in hour 3: 14 must stay", x.box(1, 3, 0, 1), 35);
    }

    private static void shapeOfLeastBits() {
        LitWindows x = owned(3, 4, KIND, 9);
        x.letter(0b100_010_000_001);
        int[] least = {0b100_010_000_001, 0b000_010_000_001, 0b000_000_000_001, 0};
        for (int slack = 0; slack <= 3; slack++) {
            x.slack(slack);
            due("least, slack " + slack, x.least(1, 1), 0);
            due("shape, slack " + slack, x.box(1, 1, 0, 1), least[slack]);
        }
        LitWindows plain = owned(3, 4, PLAIN, 1);
        plain.letter(0b100_010_000_001);
        plain.slack(1);
        due("least: two of three", plain.least(1, 0), 2);
        due("shape: the two of least bits", plain.box(1, 0, 0, 1), 0b000_010_000_001);
        plain.slack(2);
        due("least: one of three", plain.least(1, 0), 1);
        due("shape: the one of least bits", plain.box(1, 0, 0, 1), 1);
    }

    private static void shapeReadAsItsLetter() {
        LitWindows x = owned(3, 4, PLAIN, 1);
        x.letter(0b111);
        x.letter(0b000);
        x.slack(3);
        due("least: one lit is read as the other", x.least(1, 0), 2);
        due("shape: two of the three", x.box(1, 0, 0, 1), 0b011);
        x.letter(0b011);
        due("least: not what a third is", x.least(1, 0), 2);
        due("shape: the next two", x.box(1, 0, 0, 1), 0b101);
        x.letter(0b101);
        x.letter(0b110);
        due("least: no two are left", x.least(1, 0), 3);
        due("shape: its own", x.box(1, 0, 0, 1), 0b111);
        due("least of the dark one", x.least(2, 0), 0);
        due("shape of the dark one", x.box(2, 0, 0, 1), 0);
    }

    private static void mostPains() {
        LitWindows x = owned(11, 4, OLD, 9);
        x.letter(4095);
        due("least: 12 windows by day", x.least(1, 1), 144);
        due("least: 12 windows by night", x.least(1, 2), 252);
        due("least: 36 windows by day", x.least(111, 0), 432);
        due("least: 36 windows by night", x.least(111, 3), 756);
        x.slack(3);
        due("least: 27 windows by night", x.least(111, 3), 567);
    }

    /** One window of a box is another's: it is asked for the pains of its own cell, and of none else. */
    private static void painsOfEachCell() {
        for (int cell = 0; cell < 12; cell++) {
            for (int half = 0; half < 12; half += 6) {
                LitWindows x = owned(3, 4, PLAIN, 1);
                x.tenant(PLAIN, 9, 1);
                x.has(12 * (cell / 3) + cell % 3, 1);
                for (int l = 0; l < 6; l++) x.letter(1 << half + l);
                for (int l = 0; l < 6; l++) {
                    boolean same = half + l == cell;
                    due("least of cell " + (half + l) + ", " + cell + " is another's", x.least(l + 1, 0), same ? 9 : 1);
                    due("bought of cell " + (half + l) + ", " + cell + " is another's", x.bought(l + 1, 0, 1), same ? 2 : 1);
                }
                x.has(12 * (cell / 3) + cell % 3, NONE);
                for (int l = 0; l < 6; l++) {
                    boolean same = half + l == cell;
                    due("least of cell " + (half + l) + ", " + cell + " is nobody's", x.least(l + 1, 0), same ? NONE : 1);
                    due("two of cell " + (half + l) + ", " + cell + " is nobody's", x.two(l + 1, 0, l + 1, 1), same ? NONE : 0);
                    due("bars of cell " + (half + l) + ", " + cell + " is nobody's", x.bars(l + 1, 0), same ? 1 : NONE);
                }
            }
        }
    }

    private static void leastTopOfLikeOnes() {
        LitWindows x = owned(3, 5, PLAIN, 2);
        x.letter(1);
        due("least: above or below", x.least(1, 0), 2);
        due("box: the least y", x.box(1, 0, 0, 0), 0);
        x.tenant(PLAIN, 1, 0);
        x.has(12, 1);
        due("least: less below", x.least(1, 0), 1);
        due("box: below", x.box(1, 0, 0, 0), 12);
        x.has(0, 1);
        due("box: above again", x.box(1, 0, 0, 0), 0);
        LitWindows row = owned(12, 5, KIND, 0);
        row.letter(1);
        row.tenant(PLAIN, 1, 0);
        row.has(8, 1);
        row.has(4, 1);
        row.has(0, 1);
        due("box: the last place above goes ahead of the first below", row.box(111, 0, 0, 0), 1);
        row.has(9, 1);
        due("box: the first below", row.box(111, 0, 0, 0), 12);
        due("box: the second below", row.box(111, 0, 1, 0), 16);
        due("box: the third below", row.box(111, 0, 2, 0), 20);
    }

    private static void mostToTheLeftOfLikeOnes() {
        LitWindows x = owned(12, 4, KIND, 0);
        x.letter(1);
        x.tenant(PLAIN, 1, 0);
        int[][] places = {{0, 4, 8}, {0, 4, 9}, {0, 5, 9}, {1, 5, 9}, {1, 5, 9}, {1, 5, 9}, {0, 4, 8}};
        int[] pains = {0, 0, 0, 0, 1, 2, 3};
        int[] harder = {8, 4, 0, 9, 5, 1};
        for (int k = 0; k <= 6; k++) {
            due("least of three, with " + k + " harder", x.least(111, 0), pains[k]);
            for (int i = 0; i < 3; i++) due("box " + i + " of three, with " + k + " harder", x.box(111, 0, i, 0), places[k][i]);
            if (k < 6) x.has(harder[k], 1);
        }
    }

    /** A word stands in one place alone, by nature: the very first, one between, the very last. */
    private static void onlyThePlaceAt() {
        int[][] places = {{0}, {9}, {0, 4}, {0, 9}, {5, 9}, {0, 4, 8}, {0, 5, 9}, {1, 5, 9}};
        int[] words = {1, 12, 123};
        for (int[] columns : places) {
            for (int y = 0; y <= 1; y++) {
                LitWindows x = new LitWindows();
                int[] shapes = {0b101_010_010_101, 0b010_101_101_010, 0b011_110_110_011};
                for (int shape : shapes) x.letter(shape);
                for (int i = 0; i < columns.length; i++) light(x, shapes[i], 12 * y + columns[i]);
                int word = words[columns.length - 1];
                String what = word + " at " + columns[0] + ", " + y + ": ";
                due(what + "least", x.least(word, 0), 0);
                for (int i = 0; i < columns.length; i++) {
                    due(what + "box " + i, x.box(word, 0, i, 0), 12 * y + columns[i]);
                    due(what + "shape " + i, x.box(word, 0, i, 1), shapes[i]);
                    due(what + "says " + i, x.says(0, y, i, false), 1 << columns[i]);
                }
                due(what + "two", x.two(word, 0, word, 0), 0);
                due(what + "bought", x.bought(word, 0, 1), 0);
                due(what + "bars", x.bars(word, 0), NONE);
                due(what + "can(1)", x.can(1, 0), columns.length);
                due(what + "can(2)", x.can(2, 0), columns.length * (columns.length - 1) / 2);
            }
        }
    }

    private static void light(LitWindows x, int shape, int window) {
        for (int cell = 0; cell < 12; cell++) {
            if ((shape >> cell & 1) == 1) x.lit(0, window + 12 * (cell / 3) + cell % 3, true);
        }
    }

    private static void boxesOfAWord() {
        LitWindows x = owned(12, 5, PLAIN, 1);
        int[] shapes = {1, 6, 56, 448, 3584, 4095};
        for (int shape : shapes) x.letter(shape);
        int[] words = {1, 6, 16, 61, 136, 666};
        for (int word : words) {
            String digits = String.valueOf(word);
            for (int i = 0; i < 4; i++) {
                boolean is = i < digits.length();
                due("box " + i + " of " + word, x.box(word, 3, i, 0), is ? 4 * i : -5);
                due("shape " + i + " of " + word, x.box(word, 3, i, 1), is ? shapes[digits.charAt(i) - '1'] : -5);
            }
            due("box BIG of " + word, x.box(word, 3, Integer.MAX_VALUE, 0), -5);
        }
    }

    private static void twoByTheirShapes() {
        LitWindows x = owned(3, 4, PLAIN, 1);
        x.letter(1);
        x.letter(4095);
        x.letter(0);
        x.slack(3);
        due("two: just the shapes, whatever SLACK", x.two(1, 0, 3, 1), 1);
        due("two: all but one", x.two(1, 0, 2, 0), 11);
        due("two: all", x.two(2, 0, 3, 3), 12);
        for (int w : new int[] {0, 1, 13, 38}) x.lit(2, w, true);
        due("two: what was lit in the box is put out", x.two(3, 2, 3, 1), 0);
        due("two: .. in either hour", x.two(1, 3, 1, 2), 0);
        x.has(38, NONE);
        due("two: .. by nobody", x.two(3, 2, 3, 1), NONE);
        due("two: .. by nobody, in the other hour", x.two(3, 1, 3, 2), NONE);
        due("two: it is so", x.two(2, 2, 3, 1), 12);
        LitWindows wide = owned(12, 5, KIND, 0);
        wide.letter(0);
        wide.letter(4095);
        due("two: 36 windows", wide.two(111, 0, 222, 0), 36);
        for (int w = 0; w < 60; w++) wide.lit(1, w, true);
        due("two: dark ones as far from the lit ones as can be", wide.two(222, 0, 111, 1), 24);
        due("two: 24 others by nature alone", wide.two(222, 0, 222, 1), 24);
    }

    private static void twoInTheBestPlaces() {
        LitWindows x = owned(12, 5, PLAIN, 9);
        x.letter(4095);
        for (int v = 0; v < 4; v++) {
            for (int u = 0; u < 3; u++) x.lit(1, 21 + 12 * v + u, true);
        }
        due("two: both in the last place", x.two(1, 0, 1, 1), 0);
        due("two: both in the last place, the other way", x.two(1, 1, 1, 0), 0);
        due("two: one more that is lit by nature", x.two(11, 0, 1, 1), 0);
        due("two: one more that is not", x.two(11, 0, 1, 2), 12);
        LitWindows free = owned(12, 5, KIND, 0);
        free.letter(0b101_101_101_101);
        free.letter(0b010_010_010_010);
        due("two: one beside the other", free.two(1, 0, 2, 1), 4);
        due("two: two of one in both", free.two(11, 0, 11, 3), 0);
        due("two: one more", free.two(11, 0, 1, 3), 8);
        due("two: turned about", free.two(12, 0, 21, 3), 4 + 4);
    }

    private static void twoThatCanNotBe() {
        LitWindows x = owned(3, 4, STUBBORN, 1);
        x.letter(1);
        x.letter(0);
        x.lit(0, 0, true);
        due("two: lit by nature in one hour, never in the other", x.two(1, 0, 1, 1), NONE);
        due("two: never in one hour, lit by nature in the other", x.two(1, 1, 1, 0), NONE);
        due("two: lit by nature in both", x.two(1, 0, 1, 0), 0);
        due("two: put out in one", x.two(2, 0, 2, 1), 0);
        due("two: dark, and lit by nature", x.two(2, 1, 1, 0), 1);
        LitWindows bare = wall(12, 5);
        bare.letter(4095);
        bare.letter(0);
        due("two: the first can not be", bare.two(1, 0, 2, 0), NONE);
        due("two: the second can not be", bare.two(2, 0, 1, 0), NONE);
        due("two: both by nature", bare.two(2, 0, 222, 1), 0);
    }

    private static void twoWordsWithTheirOwnRefusals() {
        LitWindows x = owned(7, 4, PLAIN, 1);
        x.letter(1);
        x.letter(2);
        x.letter(0);
        x.tenant(PLAIN, 1, 1);
        own(x, 1, 0, 2, 4);
        x.refuses(1, 1);
        due("two: the first word has the letter, one place is barred", x.two(12, 0, 3, 1), NONE);
        due("two: the second word has the letter", x.two(3, 0, 12, 1), NONE);
        due("two: neither has", x.two(13, 0, 11, 1), 1);
        due("two: the other word in the places of its own", x.two(11, 0, 2, 1), 1);
        due("two: .. but a dark one may stand there", x.two(32, 0, 31, 1), 2);
    }

    private static void boughtFromNobody() {
        LitWindows x = wall(3, 4);
        x.letter(0);
        x.letter(1);
        due("bought: no tenants, by nature", x.bought(1, 0, 0), 0);
        due("bought: no tenants, by nature, bits", x.bought(1, 0, 1), 0);
        due("bought: no tenants", x.bought(2, 0, 0), NONE);
        for (int t = 0; t < 6; t++) x.tenant(KIND, 0, 0);
        due("bought: six without a window", x.bought(2, 0, 0), NONE);
        due("bought: six without a window, bits", x.bought(2, 0, 1), NONE);
        due("bought: none needed", x.bought(1, 0, 1), 0);
        x.has(0, 5);
        due("bought: the sixth, who takes nothing", x.bought(2, 0, 0), 0);
        due("bought: the sixth, bits", x.bought(2, 0, 1), 32);
    }

    private static void boughtFromAll() {
        LitWindows x = wall(11, 4);
        int[] kinds = {PLAIN, SLEEPS, WORKS, OLD, KIND, PLAIN};
        for (int kind : kinds) x.tenant(kind, 9, 99);
        for (int t = 0; t < 6; t++) own(x, t, 2 * t - t / 4, t == 5 ? 10 : 2 * t + 1, 4);
        x.letter(4095);
        due("bought: all six", x.bought(111, 2, 0), 594);
        due("bought: all six, bits", x.bought(111, 2, 1), 63);
        x.has(46, NONE);
        due("bought: one window is nobody's", x.bought(111, 2, 0), NONE);
        x.slack(1);
        due("bought: one window may be dark", x.bought(111, 2, 0), 594);
        due("bought: another hour", x.bought(111, 0, 1), 63);
    }

    private static void boughtForLeastPay() {
        LitWindows x = wall(12, 5);
        for (int t = 0; t < 6; t++) {
            x.tenant(PLAIN, t, 20 - 3 * t);
            x.has(t, t);
        }
        x.letter(1);
        x.letter(3);
        x.letter(7);
        due("bought: the cheapest place", x.bought(1, 0, 0), 5);
        due("bought: the cheapest place, bits", x.bought(1, 0, 1), 32);
        due("bought: two beside each other", x.bought(2, 0, 0), 13);
        due("bought: two beside each other, bits", x.bought(2, 0, 1), 48);
        due("bought: three", x.bought(3, 0, 0), 24);
        due("bought: three, bits", x.bought(3, 0, 1), 56);
        due("bought: two far from each other", x.bought(11, 0, 0), 22);
        due("bought: two far from each other, bits", x.bought(11, 0, 1), 34);
        x.lit(3, 0, true);
        due("bought: one that is lit by nature", x.bought(11, 3, 0), 5);
        due("bought: one that is lit by nature, bits", x.bought(11, 3, 1), 32);
        due("bought: by nature alone", x.bought(1, 3, 1), 0);
    }

    private static void boughtOfLikePay() {
        LitWindows x = wall(7, 4);
        int[] pays = {5, 5, 10, 0, 10};
        for (int pay : pays) x.tenant(PLAIN, 1, pay);
        x.letter(17);
        x.has(0, 0);
        x.has(13, 1);
        x.has(1, 2);
        x.has(14, 3);
        x.has(3, 4);
        x.has(16, 4);
        due("bought: 0 and 1, or 2 and 3, or 4", x.bought(1, 0, 0), 10);
        due("bought: the least bits", x.bought(1, 0, 1), 3);
        x.has(13, NONE);
        due("bought: 2 and 3, or 4", x.bought(1, 0, 1), 12);
        x.has(14, NONE);
        due("bought: 4", x.bought(1, 0, 1), 16);
        x.lit(0, 14, true);
        due("bought: 2, or 4", x.bought(1, 0, 1), 4);
        due("bought: 2, or 4, PAY", x.bought(1, 0, 0), 10);
    }

    private static void rowsThatCanBeSaid() {
        for (int letters = 0; letters <= 6; letters++) {
            LitWindows x = owned(7, 4, KIND, 0);
            LitWindows narrow = owned(6, 4, KIND, 0);
            for (int l = 0; l < letters; l++) {
                x.letter(1 << l);
                narrow.letter(1 << l);
            }
            due("can(1) of " + letters, x.can(1, 0), letters);
            due("can(2) of " + letters, x.can(2, 0), letters * letters);
            due("can(1) of " + letters + ", narrow", narrow.can(1, 3), letters);
            due("can(2) of " + letters + ", narrow", narrow.can(2, 3), 0);
            if (letters == 0) continue;
            x.refuses(0, letters - 1);
            due("can(1) of " + letters + ", the last refused", x.can(1, 0), letters - 1);
            due("can(2) of " + letters + ", the last refused", x.can(2, 0), (letters - 1) * (letters - 1));
        }
    }

    private static void barredTops() {
        for (int high = 4; high <= 5; high++) {
            LitWindows x = wall(11, high);
            x.letter(1);
            x.letter(4095);
            int all = high == 5 ? 3 : 1;
            due("bars: nowhere", x.bars(1, 0), all);
            due("bars: nowhere, three letters", x.bars(121, 0), all);
            x.lit(0, 8, true);
            due("bars: it can be said", x.bars(1, 0), NONE);
            due("bars: the second has no room behind", x.bars(11, 0), all - 1);
            due("bars: the first letter is another", x.bars(21, 0), all);
            x.lit(0, 8, false);
            x.lit(0, 0, true);
            due("bars: at the left edge", x.bars(12, 0), all - 1);
            x.lit(0, 0, false);
            x.slack(1);
            due("bars: one may differ", x.bars(12, 0), 0);
            due("bars: one may differ, the other first", x.bars(21, 0), all);
        }
        LitWindows below = wall(11, 5);
        below.letter(1);
        below.letter(4095);
        below.lit(0, 20, true);
        due("bars: only below, at the right edge", below.bars(12, 0), 1);
        below.lit(0, 8, true);
        due("bars: 8 has a line below that is lit", below.bars(12, 0), 1);
        below.tenant(PLAIN, 0, 0);
        below.has(20, 0);
        due("bars: it may be put out", below.bars(12, 0), 0);
        below.refuses(0, 1);
        due("bars: it may not for the second letter", below.bars(12, 0), 1);
    }
}
