import java.util.ArrayList;
import java.util.List;

/**
 * Each refused call, on an object with nothing in it, on one with something and on one with all that can be:
 * what it answers, that STATUS counts it once and by its reason, and that nothing else has changed. Whether
 * something has is seen beside a twin, made alike, that was not called so.
 */
public final class RefusalsTest {
    private static final int NONE = -1, BAD = -2, NO = -3, FULL = -4, BAD_APART = -10;
    private static final int BIG = Integer.MAX_VALUE, SMALL = Integer.MIN_VALUE;
    private static int wrong = 0;

    private interface Call {
        long on(LitWindows x);
    }

    private interface Maker {
        LitWindows make();
    }

    public static void main(String[] args) {
        State[] states = {new State(0), new State(1), new State(2)};
        for (State state : states) {
            wallCalls(state);
            tenantCalls(state);
            letterCalls(state);
            windowCalls(state);
            slackAndTypeCalls(state);
            lookCalls(state);
            wordCalls(state);
            moreWordCalls(state);
            lampCalls(state);
            keepCalls(state);
            calmCalls(state);
            readsThatFail(state);
        }
        noCalls(states[0], states[1], states[2]);
        fullCalls(states[2]);
        everyRefusalCounts();
        System.out.println(wrong == 0 ? "all refusals are as told" : wrong + " refusals are not as told");
        if (wrong != 0) System.exit(1);
    }

    /** How much there is in an object, and how to make one. */
    private static final class State implements Maker {
        final int fill;
        final int wide, high, tenants, letters, readings;

        State(int fill) {
            this.fill = fill;
            wide = fill == 1 ? 7 : 12;
            high = fill == 1 ? 4 : 5;
            tenants = new int[] {0, 2, 6}[fill];
            letters = new int[] {0, 3, 6}[fill];
            readings = new int[] {0, 1, 6}[fill];
        }

        @Override
        public LitWindows make() {
            LitWindows x = new LitWindows();
            if (fill > 0) keepOther(x, 0);
            if (fill == 2) keepOther(x, 1);
            if (fill > 0) furnish(x);
            if (fill == 1) type(x, "slack 2;");
            if (fill == 2) type(x, FULL_TEXT);
            return x;
        }

        private void keepOther(LitWindows x, int i) {
            x.wall(9 - i, 4 + i);
            x.tenant(i, i, i);
            x.letter(70 + i);
            x.lit(i, 14, true);
            x.image(i);
        }

        private void furnish(LitWindows x) {
            x.wall(wide, high);
            for (int t = 0; t < tenants; t++) x.tenant((t + 3) % 6, t, 10 + t);
            for (int l = 0; l < letters; l++) x.letter(1 << l | 1);
            for (int y = 0; y < high; y++) {
                for (int column = 0; column < wide; column++) x.has(12 * y + column, column * tenants / wide);
            }
            x.refuses(1, 2);
            for (int hour = 0; hour < 4; hour++) x.lit(hour, 13 + hour, true);
            x.slack(1);
            for (int r = 0; r < readings; r++) x.reading(r % 2, 1, r == 5 ? NONE : 1);
        }

        int lastBox() {
            return 12 * (high - 4) + wide - 3;
        }

        int[] noWindows() {
            int[] past = {-1, -12, 12 * high, 12 * high + 1, 60, 71, BIG, SMALL};
            if (wide == 12) return past;
            int[] all = new int[past.length + 2 * high];
            System.arraycopy(past, 0, all, 0, past.length);
            for (int y = 0; y < high; y++) {
                all[past.length + 2 * y] = 12 * y + wide;
                all[past.length + 2 * y + 1] = 12 * y + 11;
            }
            return all;
        }

        int[] noBoxes() {
            int[] none = noWindows();
            int[] all = new int[none.length + 4];
            System.arraycopy(none, 0, all, 0, none.length);
            all[none.length] = wide - 2;
            all[none.length + 1] = wide - 1;
            all[none.length + 2] = 12 * (high - 3);
            all[none.length + 3] = 12 * (high - 1);
            return all;
        }

        /** Numbers with a digit that is no letter, too few digits or too many. */
        List<Integer> noWords() {
            List<Integer> words = new ArrayList<>(List.of(0, -1, -11, 10, 20, 100, 101, 110, 7, 8, 9, 17, 71, 117, 171, 711, 667, 676, 766,
                1000, 1111, 6666, 11111, 1111111111, BIG, SMALL));
            int next = letters + 1;
            if (letters < 6) words.addAll(List.of(next, 10 + next, 10 * next + 1, 110 + next, 101 + 10 * next, 100 * next + 11, 111 * next));
            return words;
        }
    }

    // 25 items of 8 bytes: all that THE TEXT can hold, and a plan.
    private static final String FULL_TEXT = "slack 1;" + "letter7;letter8;letter9;" + "wall9 4;".repeat(19) + "letter5;slack 3;";

    private static void type(LitWindows x, String text) {
        for (int at = 0; at < text.length(); at += 8) {
            long v = 0;
            for (int k = 0; k < 8; k++) v = v << 8 | text.charAt(at + k);
            x.type(v, 8);
        }
    }

    private static void say(String what) {
        wrong++;
        System.out.println(what);
    }

    private static void due(String what, long got, long want) {
        if (got != want) say(what + " answered " + got + ", due is " + want);
    }

    private static int[] status(LitWindows x) {
        return new int[] {x.status(0), x.status(1), x.status(2)};
    }

    private static void refused(Maker maker, String name, Call call, int answer, int reason) {
        String where = maker instanceof State state ? name + " with fill " + state.fill : name;
        LitWindows x = maker.make();
        int[] before = status(x);
        due(where, call.on(x), answer);
        int[] after = status(x);
        for (int what = 0; what < 3; what++) {
            int counted = reason == BAD - what ? 1 : 0;
            due("status(" + what + ") behind " + where, after[what], before[what] + counted);
        }
        if (!everything(x).equals(everything(maker.make()))) say("something changes by " + where);
    }

    private static void bad(Maker maker, String name, Call call) {
        refused(maker, name, call, BAD, BAD);
    }

    private static void badApart(Maker maker, String name, Call call) {
        refused(maker, name, call, BAD_APART, BAD);
    }

    private static void no(Maker maker, String name, Call call) {
        refused(maker, name, call, NO, NO);
    }

    private static void full(Maker maker, String name, Call call) {
        refused(maker, name, call, FULL, FULL);
    }

    // What is not refused and only looks: nothing is counted, nothing changes.
    private static void calm(Maker maker, String name, Call call, int answer) {
        refused(maker, name, call, answer, 0);
    }

    /** All that can be seen of an object but STATUS; the object is another one afterwards. */
    private static List<Long> everything(LitWindows x) {
        List<Long> seen = new ArrayList<>();
        seen.add(x.digest());
        for (int hour = 0; hour < 4; hour++) {
            seen.add((long) x.least(12, hour));
            seen.add((long) x.bought(1, hour, 1));
            seen.add((long) x.says(hour, 0, 0, true));
        }
        seen.add((long) x.dead(0));
        for (int i = 0; i < 2; i++) {
            seen.add((long) x.from(i));
            seen.add(x.digest());
        }
        seen.add((long) x.read());
        seen.add(x.digest());
        seen.add((long) x.type('!', 1));
        seen.add((long) x.read());
        return seen;
    }

    private static void wallCalls(State s) {
        int[][] sizes = {{2, 4}, {2, 5}, {13, 4}, {13, 5}, {3, 3}, {12, 3}, {3, 6}, {12, 6}, {0, 0}, {-1, 4}, {12, -5}, {-12, -5},
            {5, 12}, {BIG, 4}, {SMALL, 4}, {3, BIG}, {3, SMALL}};
        for (int[] z : sizes) bad(s, "wall(" + z[0] + ", " + z[1] + ")", x -> x.wall(z[0], z[1]));
    }

    private static void tenantCalls(State s) {
        int[][] none = {{-1, 0, 0}, {6, 0, 0}, {0, -1, 0}, {0, 10, 0}, {0, 0, -1}, {0, 0, 100}, {6, 10, 100}, {5, 9, 100}, {5, 10, 99},
            {6, 9, 99}, {BIG, 0, 0}, {SMALL, 0, 0}, {0, BIG, 0}, {0, SMALL, 0}, {0, 0, BIG}, {0, 0, SMALL}};
        for (int[] t : none) bad(s, "tenant(" + t[0] + ", " + t[1] + ", " + t[2] + ")", x -> x.tenant(t[0], t[1], t[2]));
        for (int t : new int[] {-1, s.tenants, 6, BIG, SMALL}) {
            badApart(s, "refuses(" + t + ", NONE)", x -> x.refuses(t, NONE));
            badApart(s, "refuses(" + t + ", 0)", x -> x.refuses(t, 0));
        }
        for (int l : new int[] {-2, s.letters, 6, BIG, SMALL}) badApart(s, "refuses(0, " + l + ")", x -> x.refuses(0, l));
    }

    private static void letterCalls(State s) {
        for (int shape : new int[] {-1, 4096, BIG, SMALL}) bad(s, "letter(" + shape + ")", x -> x.letter(shape));
        for (int l = 0; l < s.letters; l++) {
            int alike = 1 << l | 1;
            bad(s, "letter(" + alike + ")", x -> x.letter(alike));
        }
    }

    private static void windowCalls(State s) {
        for (int w : s.noWindows()) {
            badApart(s, "has(" + w + ", NONE)", x -> x.has(w, NONE));
            badApart(s, "has(" + w + ", 0)", x -> x.has(w, 0));
            bad(s, "lit(0, " + w + ", true)", x -> x.lit(0, w, true));
            bad(s, "lit(0, " + w + ", false)", x -> x.lit(0, w, false));
            bad(s, "pains(" + w + ", 0)", x -> x.pains(w, 0));
        }
        for (int t : new int[] {-2, s.tenants, 6, BIG, SMALL}) badApart(s, "has(0, " + t + ")", x -> x.has(0, t));
        for (int hour : new int[] {-1, 4, BIG, SMALL}) {
            bad(s, "lit(" + hour + ", 0, true)", x -> x.lit(hour, 0, true));
            bad(s, "lit(" + hour + ", 0, false)", x -> x.lit(hour, 0, false));
            bad(s, "pains(0, " + hour + ")", x -> x.pains(0, hour));
        }
    }

    private static void slackAndTypeCalls(State s) {
        for (int v : new int[] {-1, 4, BIG, SMALL}) bad(s, "slack(" + v + ")", x -> x.slack(v));
        for (int n : new int[] {0, 9, -1, 16, BIG, SMALL}) bad(s, "type(1, " + n + ")", x -> x.type(1, n));
    }

    private static void lookCalls(State s) {
        for (int shape : new int[] {-1, 4096, BIG, SMALL}) {
            bad(s, "reads(" + shape + ", false)", x -> x.reads(shape, false));
            bad(s, "reads(" + shape + ", true)", x -> x.reads(shape, true));
        }
        for (int w : s.noBoxes()) bad(s, "shape(0, " + w + ")", x -> x.shape(0, w));
        for (int hour : new int[] {-1, 4, BIG, SMALL}) {
            bad(s, "shape(" + hour + ", 0)", x -> x.shape(hour, 0));
            bad(s, "says(" + hour + ", 0, 0, false)", x -> x.says(hour, 0, 0, false));
        }
        for (int y : new int[] {-1, s.high - 3, BIG, SMALL}) bad(s, "says(0, " + y + ", 0, false)", x -> x.says(0, y, 0, false));
        for (int l : new int[] {-1, s.letters, 6, BIG, SMALL}) bad(s, "says(0, 0, " + l + ", true)", x -> x.says(0, 0, l, true));
    }

    private static void wordCalls(State s) {
        for (int word : s.noWords()) {
            bad(s, "least(" + word + ", 0)", x -> x.least(word, 0));
            badApart(s, "box(" + word + ", 0, 0, 0)", x -> x.box(word, 0, 0, 0));
            bad(s, "two(" + word + ", 0, 1, 1)", x -> x.two(word, 0, 1, 1));
            bad(s, "two(1, 0, " + word + ", 1)", x -> x.two(1, 0, word, 1));
            bad(s, "bought(" + word + ", 0, 0)", x -> x.bought(word, 0, 0));
            bad(s, "bars(" + word + ", 0)", x -> x.bars(word, 0));
        }
        for (int hour : new int[] {-1, 4, BIG, SMALL}) {
            bad(s, "least(1, " + hour + ")", x -> x.least(1, hour));
            badApart(s, "box(1, " + hour + ", 0, 0)", x -> x.box(1, hour, 0, 0));
            bad(s, "two(1, " + hour + ", 1, 1)", x -> x.two(1, hour, 1, 1));
            bad(s, "two(1, 0, 1, " + hour + ")", x -> x.two(1, 0, 1, hour));
            bad(s, "bought(1, " + hour + ", 0)", x -> x.bought(1, hour, 0));
            bad(s, "can(1, " + hour + ")", x -> x.can(1, hour));
            bad(s, "bars(1, " + hour + ")", x -> x.bars(1, hour));
        }
    }

    private static void moreWordCalls(State s) {
        for (int i : new int[] {-1, -5, SMALL}) badApart(s, "box(1, 0, " + i + ", 0)", x -> x.box(1, 0, i, 0));
        for (int what : new int[] {-1, 2, BIG, SMALL}) {
            badApart(s, "box(1, 0, 0, " + what + ")", x -> x.box(1, 0, 0, what));
            badApart(s, "box(1, 0, 5, " + what + ")", x -> x.box(1, 0, 5, what));
            bad(s, "bought(1, 0, " + what + ")", x -> x.bought(1, 0, what));
        }
        for (int n : new int[] {0, 3, -1, BIG, SMALL}) bad(s, "can(" + n + ", 0)", x -> x.can(n, 0));
    }

    private static void lampCalls(State s) {
        for (int w : s.noBoxes()) bad(s, "reading(" + w + ", 0, 0)", x -> x.reading(w, 0, 0));
        for (int l : new int[] {-1, s.letters, 6, BIG, SMALL}) bad(s, "reading(0, " + l + ", NONE)", x -> x.reading(0, l, NONE));
        for (int l : new int[] {-2, s.letters, 6, BIG, SMALL}) bad(s, "reading(0, 0, " + l + ")", x -> x.reading(0, 0, l));
        for (int what : new int[] {-1, 4, BIG, SMALL}) bad(s, "dead(" + what + ")", x -> x.dead(what));
        for (int k = 1; k <= 5; k++) {
            int cells = k;
            for (int d : new int[] {0, k + 1, -1, BIG, SMALL}) bad(s, "unlike(" + k + ", " + d + ")", x -> x.unlike(cells, d));
        }
        int[][] more = {{0, 0}, {0, 1}, {-1, 1}, {6, 1}, {6, 6}, {BIG, 1}, {SMALL, SMALL}};
        for (int[] m : more) bad(s, "unlike(" + m[0] + ", " + m[1] + ")", x -> x.unlike(m[0], m[1]));
    }

    private static void keepCalls(State s) {
        for (int i : new int[] {-1, 2, BIG, SMALL}) {
            bad(s, "image(" + i + ")", x -> x.image(i));
            bad(s, "from(" + i + ")", x -> x.from(i));
        }
        for (int what : new int[] {-1, 3, BIG, SMALL}) refused(s, "status(" + what + ")", x -> x.status(what), NONE, BAD);
        for (int what : new int[] {-1, 6, BIG, SMALL}) bad(s, "count(" + what + ")", x -> x.count(what));
    }

    // NONE, 0 and -5 are answers, not refusals.
    private static void calmCalls(State s) {
        calm(s, "reads(4095, false)", x -> x.reads(4095, false), NONE);
        calm(s, "reads(0, true)", x -> x.reads(0, true), s.fill == 0 ? NONE : 0);
        calm(s, "count(0)", x -> x.count(0), s.wide);
        calm(s, "count(4)", x -> x.count(4), s.readings);
        calm(s, "unlike(5, 5)", x -> x.unlike(5, 5), 2);
        calm(s, "shape of the last box", x -> x.shape(3, s.lastBox()), s.fill == 1 ? 8 : 0);
        if (s.fill == 0) {
            calm(s, "pains(0, 0)", x -> x.pains(0, 0), NONE);
            calm(s, "can(2, 3)", x -> x.can(2, 3), 0);
            calm(s, "dead(0)", x -> x.dead(0), 1831);
            calm(s, "dead(1)", x -> x.dead(1), 0);
            calm(s, "dead(3)", x -> x.dead(3), NONE);
            calm(s, "unread()", x -> x.unread(), 0);
            calm(s, "clear()", x -> x.clear(), 0);
            calm(s, "read()", x -> x.read(), 0);
        } else {
            calm(s, "box(1, 0, 1, 0)", x -> x.box(1, 0, 1, 0), -5);
            calm(s, "box(1, 0, BIG, 1)", x -> x.box(1, 0, BIG, 1), -5);
            calm(s, "bars(1, 0)", x -> x.bars(1, 0), NONE);
            calm(s, "two(1, 0, 1, 0)", x -> x.two(1, 0, 1, 0), 0);
        }
        if (s.fill == 1) {
            calm(s, "least(111, 0)", x -> x.least(111, 0), NONE);
            calm(s, "box(111, 0, 0, 0)", x -> x.box(111, 0, 0, 0), -5);
            calm(s, "bought(111, 0, 0)", x -> x.bought(111, 0, 0), NONE);
            calm(s, "two(111, 0, 1, 0)", x -> x.two(111, 0, 1, 0), NONE);
            calm(s, "bars(111, 0)", x -> x.bars(111, 0), 0);
        }
    }

    private static LitWindows contradicted() {
        LitWindows x = new LitWindows();
        x.letter(0);
        x.reading(0, 0, NONE);
        return x;
    }

    private static void noCalls(State nothing, State something, State all) {
        no(nothing, "lit(0, 0, false)", x -> x.lit(0, 0, false));
        no(nothing, "lit(3, 59, false)", x -> x.lit(3, 59, false));
        no(nothing, "from(0)", x -> x.from(0));
        no(nothing, "from(1)", x -> x.from(1));
        no(something, "from(1)", x -> x.from(1));
        for (State s : new State[] {something, all}) {
            no(s, "lit(0, 13, true)", x -> x.lit(0, 13, true));
            no(s, "lit(1, 13, false)", x -> x.lit(1, 13, false));
            no(s, "lit(3, 16, true)", x -> x.lit(3, 16, true));
        }
        calm(RefusalsTest::contradicted, "dead(0), none", x -> x.dead(0), 0);
        for (int what = 1; what <= 3; what++) {
            int one = what;
            no(RefusalsTest::contradicted, "dead(" + what + "), none", x -> x.dead(one));
        }
        bad(RefusalsTest::contradicted, "dead(4), none", x -> x.dead(4));
        bad(RefusalsTest::contradicted, "dead(-1), none", x -> x.dead(-1));
    }

    private static LitWindows typed(int bytes) {
        LitWindows x = new LitWindows();
        for (int i = 0; i < bytes; i += 8) x.type(0x736c61636b20313bL, Math.min(8, bytes - i));
        return x;
    }

    // BAD goes ahead of FULL: bad(..) of the same calls is looked at with all that can be, too.
    private static void fullCalls(State all) {
        full(all, "tenant(0, 0, 0)", x -> x.tenant(0, 0, 0));
        full(all, "tenant(5, 9, 99)", x -> x.tenant(5, 9, 99));
        full(all, "letter(0)", x -> x.letter(0));
        full(all, "letter(4095)", x -> x.letter(4095));
        full(all, "reading(0, 0, 0)", x -> x.reading(0, 0, 0));
        full(all, "reading of the last box", x -> x.reading(all.lastBox(), 5, NONE));
        full(all, "type(1, 1)", x -> x.type(1, 1));
        full(all, "type(-1, 8)", x -> x.type(-1, 8));
        for (int n = 1; n <= 8; n++) {
            int bytes = n;
            full(() -> typed(201 - bytes), "type(0, " + n + "), a byte too many", x -> x.type(0, bytes));
            LitWindows fits = typed(200 - n);
            due("type(0, " + n + ") up to 200", fits.type(0, n), 200);
            due("status(2) behind it", fits.status(2), 0);
        }
    }

    private static void failed(State s, String text, int answer) {
        Maker maker = () -> {
            LitWindows x = s.make();
            x.clear();
            for (int i = 0; i < text.length(); i++) x.type(text.charAt(i), 1);
            return x;
        };
        calm(maker, "read() of '" + text + "' with fill " + s.fill, x -> x.read(), answer);
    }

    // Neither a FAULT nor an ITEM that is refused is a refusal, but nothing changes.
    private static void readsThatFail(State s) {
        failed(s, ";", -10);
        failed(s, "slack 3", -17);
        failed(s, "wall 4 4;slack 3;lit 0 0 0;x", -37);
        failed(s, "wall 13 4;", -1000);
        failed(s, "tenant 6 0 0;", -1000);
        failed(s, "wall 4 4;tenant 0 0 0;has 0 4 0;", -1002);
        failed(s, "slack 3;lit 0 0 0;letter 6;lit 0 0 0;", -1003);
        failed(s, "letter0;letter1;letter2;letter3;letter4;letter5;letter6;", -1006);
        failed(s, "tenant0 0 0;".repeat(7), -1006);
    }

    private static void everyRefusalCounts() {
        LitWindows x = new LitWindows();
        for (int i = 0; i < 150; i++) due("slack(4)", x.slack(4), BAD);
        for (int i = 0; i < 150; i++) due("lit(0, 0, false)", x.lit(0, 0, false), NO);
        for (int i = 0; i < 25; i++) x.type(0, 8);
        for (int i = 0; i < 150; i++) due("type(0, 1)", x.type(0, 1), FULL);
        x.wall(3, 4);
        x.image(0);
        x.slack(-1);
        x.from(0);
        x.clear();
        x.read();
        due("status(0), many", x.status(0), 151);
        due("status(1), many", x.status(1), 150);
        due("status(2), many", x.status(2), 150);
    }
}
