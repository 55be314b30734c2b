import java.nio.charset.StandardCharsets;
import java.util.ArrayList;
import java.util.Arrays;
import java.util.HashMap;
import java.util.List;
import java.util.Map;
import java.util.regex.Matcher;
import java.util.regex.Pattern;

/**
 * Long mixed runs of calls, each answer laid beside that of a slow model that tries out everything. The model
 * is written from the document alone, with other ways of finding and of keeping things than the program has.
 */
public final class ModelTest {
    private static final int NONE = -1, BAD = -2, NO = -3, FULL = -4;
    // An object is used for 512 calls at most; a step and what furnishes a wall anew take so many at most.
    private static final int RUNS = 250, CALLS = 512, IN_A_STEP = 90, TO_FURNISH = 180;
    private static final int TO_A_DIGEST = 4;
    private static int wrong = 0;

    public static void main(String[] args) {
        for (int run = 0; run < RUNS && wrong == 0; run++) new Run(run).go();
        System.out.println(wrong == 0 ? "the program and the model agree" : "they do not agree");
        if (wrong != 0) System.exit(1);
    }

    /** Numbers that look mixed, but are the same each time. */
    private static final class Dice {
        private long state;

        Dice(long seed) {
            state = seed * 0x9E3779B97F4A7C15L + 1;
            for (int i = 0; i < 4; i++) below(2);
        }

        int below(int n) {
            state = state * 6364136223846793005L + 1442695040888963407L;
            return (int) ((state >>> 33) % n);
        }

        boolean oneIn(int n) {
            return below(n) == 0;
        }

        // Mostly from 0 to n - 1, sometimes an edge or far off.
        int about(int n) {
            if (!oneIn(14)) return below(Math.max(n, 1));
            int[] off = {-1, n, n + 1, -2, Integer.MAX_VALUE, Integer.MIN_VALUE};
            return off[below(off.length)];
        }
    }

    private static final class Run {
        final int number;
        final Dice dice;
        final LitWindows program = new LitWindows();
        final Model model = new Model();
        final List<String> told = new ArrayList<>();
        int calls = 0;
        // Runs of one flavour keep to letters that are near each other, or to few windows lit.
        final int letterBits;
        final int litOdds;

        Run(int number) {
            this.number = number;
            this.dice = new Dice(number + 1);
            this.letterBits = number % 3 == 0 ? 12 : number % 3 == 1 ? 4 : 6;
            this.litOdds = 1 + number % 5;
        }

        void go() {
            furnish();
            while (calls < CALLS - IN_A_STEP && wrong == 0) step();
            if (calls > CALLS) throw new IllegalStateException("run " + number + " makes " + calls + " calls");
        }

        void call(String name, long got, long want) {
            told.add(name + " = " + got);
            calls++;
            boolean same = true;
            if (told.size() % TO_A_DIGEST == 0) {
                same = program.digest() == model.digest();
                calls++;
            }
            if (got == want && same) return;
            wrong++;
            System.out.println("run " + number + ": " + name + " answered " + got + ", due is " + want
                + (got == want ? ", but the digests differ" : ""));
            for (String line : told) System.out.println("  " + line);
        }

        void furnish() {
            if (number % 4 != 0) wall(3 + dice.below(10), 4 + dice.below(2));
            int tenants = dice.below(7);
            for (int t = 0; t < tenants; t++) tenant(dice.below(6), dice.below(10), dice.below(20));
            int letters = 1 + dice.below(6);
            for (int l = 0; l < letters; l++) letter(dice.below(1 << letterBits));
            if (dice.oneIn(2)) slack(dice.below(4));
            for (int k = 0; k < model.high; k++) {
                for (int x = 0; x < model.wide; x++) {
                    int owner = tenants == 0 ? NONE : number % 2 == 0 ? x * tenants / model.wide : dice.below(tenants);
                    if (owner != NONE && !dice.oneIn(12)) has(12 * k + x, owner);
                    if (dice.oneIn(4 * litOdds)) lit(dice.below(4), 12 * k + x, true);
                }
            }
        }

        void wall(int w, int h) { call("wall(" + w + ", " + h + ")", program.wall(w, h), model.wall(w, h)); }

        void tenant(int k, int p, int y) {
            call("tenant(" + k + ", " + p + ", " + y + ")", program.tenant(k, p, y), model.tenant(k, p, y));
        }

        void letter(int s) { call("letter(" + s + ")", program.letter(s), model.letter(s)); }

        void slack(int v) { call("slack(" + v + ")", program.slack(v), model.slack(v)); }

        void has(int w, int t) { call("has(" + w + ", " + t + ")", program.has(w, t), model.has(w, t)); }

        void lit(int h, int w, boolean is) {
            call("lit(" + h + ", " + w + ", " + is + ")", program.lit(h, w, is), model.lit(h, w, is));
        }

        int word() {
            int l = model.shapes.size();
            if (l == 0 || dice.oneIn(15)) return dice.oneIn(3) ? dice.about(700) : dice.below(70);
            int digits = 1 + dice.below(model.wide >= 11 ? 3 : model.wide >= 7 ? 2 : 1);
            if (dice.oneIn(12)) digits = 1 + dice.below(4);
            int word = 0;
            for (int i = 0; i < digits; i++) word = 10 * word + 1 + dice.below(l);
            return word;
        }

        int window() {
            if (dice.oneIn(12)) return dice.about(60);
            return 12 * dice.below(model.high) + dice.below(model.wide);
        }

        int boxWindow() {
            if (dice.oneIn(12)) return window();
            return 12 * dice.below(model.high - 3) + dice.below(model.wide - 2);
        }

        int letterOrNone() {
            return dice.oneIn(3) ? NONE : dice.about(model.shapes.size());
        }

        void step() {
            int kind = dice.below(100);
            if (kind < 24) change();
            else if (kind < 40) look();
            else if (kind < 72) words();
            else if (kind < 84) lamps();
            else if (kind < 92) keep();
            else plan();
        }

        void change() {
            switch (dice.below(14)) {
                case 0 -> { if (dice.oneIn(6)) { wall(3 + dice.about(10), 4 + dice.about(2)); furnishAnew(); } }
                case 1 -> tenant(dice.about(6), dice.about(10), dice.about(100));
                case 2, 3 -> {
                    int t = dice.about(model.tenants.size()), l = letterOrNone();
                    call("refuses(" + t + ", " + l + ")", program.refuses(t, l), model.refuses(t, l));
                }
                case 4, 5, 6 -> has(window(), dice.oneIn(5) ? NONE : dice.about(model.tenants.size()));
                case 7 -> letter(dice.oneIn(9) ? dice.about(4096) : dice.below(1 << letterBits));
                case 8, 9, 10, 11 -> lit(dice.about(4), window(), dice.oneIn(2));
                default -> slack(dice.about(4));
            }
        }

        void furnishAnew() {
            if (model.shapes.isEmpty() && calls < CALLS - IN_A_STEP - TO_FURNISH) furnish();
        }

        void look() {
            int hour = dice.about(4);
            boolean behind = dice.oneIn(2);
            switch (dice.below(4)) {
                case 0 -> {
                    int w = window();
                    call("pains(" + w + ", " + hour + ")", program.pains(w, hour), model.pains(w, hour));
                }
                case 1 -> {
                    int s = dice.oneIn(2) ? dice.about(4096) : dice.below(1 << letterBits);
                    call("reads(" + s + ", " + behind + ")", program.reads(s, behind), model.reads(s, behind));
                }
                case 2 -> {
                    int w = boxWindow();
                    call("shape(" + hour + ", " + w + ")", program.shape(hour, w), model.shape(hour, w));
                }
                default -> {
                    int y = dice.about(model.high - 3), l = dice.about(model.shapes.size());
                    call("says(" + hour + ", " + y + ", " + l + ", " + behind + ")", program.says(hour, y, l, behind),
                        model.says(hour, y, l, behind));
                }
            }
        }

        void words() {
            int word = word(), hour = dice.oneIn(20) ? dice.about(4) : dice.below(4);
            switch (dice.below(12)) {
                case 0, 1, 2 -> call("least(" + word + ", " + hour + ")", program.least(word, hour), model.least(word, hour));
                case 3, 4 -> {
                    int i = dice.about(3), what = dice.about(2);
                    call("box(" + word + ", " + hour + ", " + i + ", " + what + ")", program.box(word, hour, i, what),
                        model.box(word, hour, i, what));
                }
                case 5, 6 -> {
                    int other = word(), at = dice.below(4);
                    call("two(" + word + ", " + hour + ", " + other + ", " + at + ")", program.two(word, hour, other, at),
                        model.two(word, hour, other, at));
                }
                case 7, 8 -> {
                    int what = dice.about(2);
                    call("bought(" + word + ", " + hour + ", " + what + ")", program.bought(word, hour, what),
                        model.bought(word, hour, what));
                }
                case 9 -> {
                    int n = 1 + dice.about(2);
                    call("can(" + n + ", " + hour + ")", program.can(n, hour), model.can(n, hour));
                }
                default -> call("bars(" + word + ", " + hour + ")", program.bars(word, hour), model.bars(word, hour));
            }
        }

        void lamps() {
            switch (dice.below(9)) {
                case 0, 1, 2 -> {
                    int w = boxWindow(), l = dice.about(model.shapes.size()), as = letterOrNone();
                    call("reading(" + w + ", " + l + ", " + as + ")", program.reading(w, l, as), model.reading(w, l, as));
                }
                case 3 -> call("unread()", program.unread(), model.unread());
                case 4 -> {
                    int k = 1 + dice.about(5), d = 1 + dice.about(5);
                    call("unlike(" + k + ", " + d + ")", program.unlike(k, d), model.unlikeAnswer(k, d));
                }
                default -> {
                    int what = dice.about(4);
                    call("dead(" + what + ")", program.dead(what), model.dead(what));
                }
            }
        }

        void keep() {
            int i = dice.about(2), what = dice.about(6);
            switch (dice.below(8)) {
                case 0, 1, 2 -> call("image(" + i + ")", program.image(i), model.image(i));
                case 3 -> call("from(" + i + ")", program.from(i), model.from(i));
                case 4, 5 -> call("count(" + what + ")", program.count(what), model.count(what));
                default -> {
                    int s = dice.about(3);
                    call("status(" + s + ")", program.status(s), model.status(s));
                }
            }
        }

        void plan() {
            if (dice.oneIn(2)) call("clear()", program.clear(), model.clear());
            byte[] bytes = planText().getBytes(StandardCharsets.ISO_8859_1);
            for (int at = 0; at < bytes.length; ) {
                int n = dice.oneIn(20) ? dice.about(9) : Math.min(8, bytes.length - at);
                long v = dice.below(1 << 20) * 0x100000001L;
                for (int k = 0; k < n && k < 8 && at + k < bytes.length; k++) v = v << 8 | bytes[at + k] & 255;
                call("type(" + v + ", " + n + ")", program.type(v, n), model.type(v, n));
                if (wrong != 0) return;
                at += Math.max(1, Math.min(n, 8));
            }
            if (dice.oneIn(2)) call("image(1)", program.image(1), model.image(1));
            call("read()", program.read(), model.read());
            if (dice.oneIn(2)) call("from(1)", program.from(1), model.from(1));
        }

        String planText() {
            StringBuilder text = new StringBuilder();
            int items = dice.below(8);
            for (int i = 0; i < items; i++) {
                text.append(blanks());
                switch (dice.below(10)) {
                    case 0 -> item(text, "wall", 3 + dice.about(10), 4 + dice.about(2));
                    case 1, 2 -> item(text, "tenant", dice.about(6), dice.about(10), dice.about(100));
                    case 3, 4 -> item(text, "has", dice.below(3), dice.about(12), dice.about(5));
                    case 5, 6 -> item(text, "letter", dice.below(1 << letterBits));
                    case 7, 8 -> item(text, "lit", dice.about(4), dice.about(12), dice.about(5));
                    default -> item(text, "slack", dice.about(4));
                }
            }
            if (text.length() > 0 && dice.oneIn(3)) {
                int at = dice.below(text.length());
                String odd = " ;a1z9wA-\u00ff\n";
                if (dice.oneIn(2)) text.setCharAt(at, odd.charAt(dice.below(odd.length())));
                else text.deleteCharAt(at);
            }
            if (dice.oneIn(10)) text.setLength(dice.below(text.length() + 1));
            return text.toString();
        }

        void item(StringBuilder text, String name, int... numbers) {
            text.append(name);
            for (int k = 0; k < numbers.length; k++) {
                if (k > 0 || dice.oneIn(2)) text.append(' ').append(blanks());
                if (dice.oneIn(9)) text.append('0');
                text.append(numbers[k] < 0 ? 7 : numbers[k] > 10000 ? dice.below(12000) : numbers[k]);
            }
            text.append(blanks()).append(';');
        }

        String blanks() {
            return " ".repeat(dice.oneIn(4) ? dice.below(3) : 0);
        }
    }

    /** The document, told again in the slowest way. */
    private static final class Model {
        int wide = 12, high = 5, slack = 0;
        List<int[]> tenants = new ArrayList<>();
        List<Integer> shapes = new ArrayList<>();
        List<int[]> readings = new ArrayList<>();
        int[][] owner = new int[12][5];
        boolean[][][] lights = new boolean[4][12][5];
        String text = "";
        final Model[] images = new Model[2];
        final int[] refusals = new int[3];

        Model() {
            anew(12, 5);
        }

        void anew(int w, int h) {
            wide = w;
            high = h;
            slack = 0;
            tenants = new ArrayList<>();
            shapes = new ArrayList<>();
            readings = new ArrayList<>();
            owner = new int[12][5];
            for (int[] column : owner) Arrays.fill(column, NONE);
            lights = new boolean[4][12][5];
        }

        void copy(Model m) {
            anew(m.wide, m.high);
            slack = m.slack;
            for (int[] t : m.tenants) tenants.add(t.clone());
            shapes.addAll(m.shapes);
            for (int[] r : m.readings) readings.add(r.clone());
            for (int x = 0; x < 12; x++) {
                for (int y = 0; y < 5; y++) {
                    owner[x][y] = m.owner[x][y];
                    for (int hour = 0; hour < 4; hour++) lights[hour][x][y] = m.lights[hour][x][y];
                }
            }
        }

        int refuse(int answer) {
            refusals[-2 - answer]++;
            return answer;
        }

        int refuseApart() {
            refuse(BAD);
            return -10;
        }

        static boolean in(int v, int from, int to) { return from <= v && v <= to; }

        boolean window(int w) { return in(w, 0, 59) && w % 12 < wide && w / 12 < high; }

        boolean boxAt(int w) { return window(w) && w % 12 + 2 < wide && w / 12 + 3 < high; }

        boolean letterIs(int l) { return in(l, 0, shapes.size() - 1); }

        int wall(int w, int h) {
            if (!in(w, 3, 12) || !in(h, 4, 5)) return refuse(BAD);
            anew(w, h);
            return 1;
        }

        int tenant(int kind, int pain, int pay) {
            if (!in(kind, 0, 5) || !in(pain, 0, 9) || !in(pay, 0, 99)) return refuse(BAD);
            if (tenants.size() == 6) return refuse(FULL);
            tenants.add(new int[] {kind, pain, pay, NONE});
            return tenants.size() - 1;
        }

        int refuses(int t, int l) {
            if (!in(t, 0, tenants.size() - 1) || l != NONE && !letterIs(l)) return refuseApart();
            int was = tenants.get(t)[3];
            tenants.get(t)[3] = l;
            return was;
        }

        int has(int w, int t) {
            if (!window(w) || !in(t, NONE, tenants.size() - 1)) return refuseApart();
            int was = owner[w % 12][w / 12];
            owner[w % 12][w / 12] = t;
            return was;
        }

        int letter(int s) {
            if (!in(s, 0, 4095) || shapes.contains(s)) return refuse(BAD);
            if (shapes.size() == 6) return refuse(FULL);
            shapes.add(s);
            return shapes.size() - 1;
        }

        int lit(int hour, int w, boolean is) {
            if (!in(hour, 0, 3) || !window(w)) return refuse(BAD);
            if (lights[hour][w % 12][w / 12] == is) return refuse(NO);
            lights[hour][w % 12][w / 12] = is;
            return 1;
        }

        int slack(int v) {
            if (!in(v, 0, 3)) return refuse(BAD);
            int was = slack;
            slack = v;
            return was;
        }

        int pains(int w, int hour) {
            if (!window(w) || !in(hour, 0, 3)) return refuse(BAD);
            return painsAsked(w, hour, List.of());
        }

        // NONE: never. The letters are those of the word.
        int painsAsked(int w, int hour, List<Integer> word) {
            int t = owner[w % 12][w / 12];
            if (t == NONE) return NONE;
            int[] tenant = tenants.get(t);
            if (tenant[3] != NONE && word.contains(tenant[3])) return NONE;
            int plain = tenant[1], sleeps = hour < 2 ? plain : plain + plain, old = sleeps + 3;
            if (tenant[0] == 4 && !lights[hour][w % 12][w / 12]) return NONE;
            return new int[] {plain, sleeps, hour < 2 ? 0 : plain, old, old, 0}[tenant[0]];
        }

        int type(long v, int n) {
            if (!in(n, 1, 8)) return refuse(BAD);
            if (text.length() + n > 200) return refuse(FULL);
            String more = "";
            for (int k = 0; k < n; k++) {
                more = (char) (v & 255) + more;
                v >>= 8;
            }
            text += more;
            return text.length();
        }

        int clear() {
            int had = text.length();
            text = "";
            return had;
        }

        static final Pattern TOKEN = Pattern.compile(" *(?:([a-z]+)|([0-9]+)|(;)|([^ ])|$)", Pattern.DOTALL);
        static final Map<String, Integer> ITEMS = Map.of("wall", 2, "tenant", 3, "has", 3, "letter", 1, "lit", 3, "slack", 1);

        int read() {
            List<String> words = new ArrayList<>();
            List<List<Integer>> numbers = new ArrayList<>();
            Matcher m = TOKEN.matcher(text);
            int at = 0, left = -1;
            while (m.find(at) && m.start() == at) {
                at = m.end();
                if (m.group(1) == null && m.group(2) == null && m.group(3) == null && m.group(4) == null) break;
                int first = m.group(1) != null ? m.start(1) : m.group(2) != null ? m.start(2) : m.group(3) != null ? m.start(3) : m.start(4);
                boolean stands;
                if (left == -1) {
                    stands = m.group(1) != null && ITEMS.containsKey(m.group(1));
                    if (stands) {
                        words.add(m.group(1));
                        numbers.add(new ArrayList<>());
                        left = ITEMS.get(m.group(1));
                    }
                } else if (left > 0) {
                    stands = m.group(2) != null && m.group(2).length() <= 4;
                    if (stands) numbers.get(numbers.size() - 1).add(Integer.valueOf(m.group(2)));
                    left--;
                } else {
                    stands = m.group(3) != null;
                    left = -1;
                }
                if (!stands) return -10 - first;
            }
            if (left != -1) return -10 - text.length();
            Model fresh = new Model();
            for (int i = 0; i < words.size(); i++) {
                fresh.item(words.get(i), numbers.get(i));
                if (fresh.refusals[0] + fresh.refusals[1] + fresh.refusals[2] > 0) return -1000 - i;
            }
            copy(fresh);
            return words.size();
        }

        void item(String word, List<Integer> n) {
            switch (word) {
                case "wall" -> wall(n.get(0), n.get(1));
                case "tenant" -> tenant(n.get(0), n.get(1), n.get(2));
                case "has" -> has(windowOf(n.get(1), n.get(2)), n.get(0));
                case "letter" -> letter(n.get(0));
                case "lit" -> lit(n.get(0), windowOf(n.get(1), n.get(2)), true);
                default -> slack(n.get(0));
            }
        }

        int windowOf(int x, int y) { return x < 12 && y < 5 ? 12 * y + x : -1; }

        int readAs(int shape) {
            int found = NONE;
            for (int l = 0; l < shapes.size(); l++) {
                boolean alone = unlike(shape, shapes.get(l)) <= slack;
                for (int o = 0; o < shapes.size(); o++) {
                    if (o != l && unlike(shape, shapes.get(o)) <= unlike(shape, shapes.get(l))) alone = false;
                }
                if (alone) found = l;
            }
            return found;
        }

        static int unlike(int a, int b) {
            int n = 0;
            for (int cell = 0; cell < 12; cell++) n += (a >> cell & 1) != (b >> cell & 1) ? 1 : 0;
            return n;
        }

        static int turned(int shape, boolean behind) {
            int turned = 0;
            for (int v = 0; v < 4; v++) {
                for (int u = 0; u < 3; u++) {
                    if ((shape >> 3 * v + u & 1) == 1) turned |= 1 << 3 * v + (behind ? 2 - u : u);
                }
            }
            return turned;
        }

        int reads(int shape, boolean behind) {
            return in(shape, 0, 4095) ? readAs(turned(shape, behind)) : refuse(BAD);
        }

        int shapeAt(int hour, int x, int y) {
            int shape = 0;
            for (int v = 0; v < 4; v++) {
                for (int u = 0; u < 3; u++) shape |= lights[hour][x + u][y + v] ? 1 << 3 * v + u : 0;
            }
            return shape;
        }

        int shape(int hour, int w) {
            return in(hour, 0, 3) && boxAt(w) ? shapeAt(hour, w % 12, w / 12) : refuse(BAD);
        }

        int says(int hour, int y, int l, boolean behind) {
            if (!in(hour, 0, 3) || !in(y, 0, high - 4) || !letterIs(l)) return refuse(BAD);
            int bits = 0;
            for (int x = 0; x + 3 <= wide; x++) bits |= readAs(turned(shapeAt(hour, x, y), behind)) == l ? 1 << x : 0;
            return bits;
        }

        // null: no word.
        List<Integer> word(int number) {
            List<Integer> word = new ArrayList<>();
            for (char digit : String.valueOf(number).toCharArray()) {
                if (!in(digit - '1', 0, shapes.size() - 1)) return null;
                word.add(digit - '1');
            }
            return word.size() > 3 ? null : word;
        }

        // Pains and shape of the best for a box by those tenants (bits), or null.
        int[] best(int l, int x, int y, int hour, List<Integer> word, int set, Map<Integer, int[]> known) {
            int key = (l * 12 + x) * 5 + y;
            if (known.containsKey(key)) return known.get(key);
            int[] best = null;
            int now = shapeAt(hour, x, y);
            int[] cells = new int[12];
            for (int c = 0; c < 12; c++) {
                int t = owner[x + c % 3][y + c / 3];
                cells[c] = t == NONE || (set >> t & 1) == 0 ? NONE : painsAsked(12 * (y + c / 3) + x + c % 3, hour, word);
            }
            for (int s = 0; s < 4096; s++) {
                if (unlike(s, shapes.get(l)) > slack || readAs(s) != l) continue;
                int pains = 0;
                boolean may = true;
                for (int c = 0; c < 12; c++) {
                    if ((s >> c & 1) == (now >> c & 1)) continue;
                    if (cells[c] == NONE) may = false;
                    else pains += cells[c];
                }
                if (may && (best == null || pains < best[0])) best = new int[] {pains, s};
            }
            known.put(key, best);
            return best;
        }

        // All places of so many boxes, as y and columns, in their order.
        List<int[]> places(int n) {
            List<int[]> places = new ArrayList<>();
            for (int y = 0; y + 4 <= high; y++) {
                for (int a = 0; a + 3 <= wide; a++) {
                    if (n == 1) places.add(new int[] {y, a});
                    for (int b = a + 4; n > 1 && b + 3 <= wide; b++) {
                        if (n == 2) places.add(new int[] {y, a, b});
                        for (int c = b + 4; n > 2 && c + 3 <= wide; c++) places.add(new int[] {y, a, b, c});
                    }
                }
            }
            return places;
        }

        // Pains, then window and shape of each box; null: it can not be.
        int[] leastOf(List<Integer> word, int hour, int set) {
            Map<Integer, int[]> known = new HashMap<>();
            int[] least = null;
            for (int[] place : places(word.size())) {
                int[] made = new int[1 + 2 * word.size()];
                boolean may = true;
                for (int i = 0; i < word.size() && may; i++) {
                    int[] best = best(word.get(i), place[i + 1], place[0], hour, word, set, known);
                    may = best != null;
                    if (may) {
                        made[0] += best[0];
                        made[2 * i + 1] = 12 * place[0] + place[i + 1];
                        made[2 * i + 2] = best[1];
                    }
                }
                if (may && (least == null || made[0] < least[0])) least = made;
            }
            return least;
        }

        int least(int number, int hour) {
            List<Integer> word = word(number);
            if (word == null || !in(hour, 0, 3)) return refuse(BAD);
            int[] least = leastOf(word, hour, 63);
            return least == null ? NONE : least[0];
        }

        int box(int number, int hour, int i, int what) {
            List<Integer> word = word(number);
            if (word == null || !in(hour, 0, 3) || i < 0 || !in(what, 0, 1)) return refuseApart();
            int[] least = leastOf(word, hour, 63);
            return least == null || i >= word.size() ? -5 : least[1 + 2 * i + what];
        }

        List<boolean[][]> pictures(List<Integer> word, int hour) {
            List<boolean[][]> pictures = new ArrayList<>();
            for (int[] place : places(word.size())) {
                boolean[][] picture = new boolean[12][];
                for (int x = 0; x < 12; x++) picture[x] = lights[hour][x].clone();
                boolean may = true;
                for (int i = 0; i < word.size(); i++) {
                    for (int c = 0; c < 12; c++) {
                        int x = place[i + 1] + c % 3, y = place[0] + c / 3;
                        boolean is = (shapes.get(word.get(i)) >> c & 1) == 1;
                        if (is != picture[x][y] && painsAsked(12 * y + x, hour, word) == NONE) may = false;
                        picture[x][y] = is;
                    }
                }
                if (may) pictures.add(picture);
            }
            return pictures;
        }

        int two(int a, int hourA, int b, int hourB) {
            List<Integer> one = word(a), other = word(b);
            if (one == null || other == null || !in(hourA, 0, 3) || !in(hourB, 0, 3)) return refuse(BAD);
            int fewest = NONE;
            List<boolean[][]> others = pictures(other, hourB);
            for (boolean[][] p : pictures(one, hourA)) {
                for (boolean[][] q : others) {
                    int n = 0;
                    for (int x = 0; x < 12; x++) {
                        for (int y = 0; y < 5; y++) n += p[x][y] != q[x][y] ? 1 : 0;
                    }
                    if (fewest == NONE || n < fewest) fewest = n;
                }
            }
            return fewest;
        }

        int bought(int number, int hour, int what) {
            List<Integer> word = word(number);
            if (word == null || !in(hour, 0, 3) || !in(what, 0, 1)) return refuse(BAD);
            int[] best = {NONE, NONE};
            for (int set = 0; set < 1 << tenants.size(); set++) {
                int pay = 0;
                for (int t = 0; t < tenants.size(); t++) pay += (set >> t & 1) * tenants.get(t)[2];
                if (leastOf(word, hour, set) != null && (best[1] == NONE || pay < best[0])) best = new int[] {pay, set};
            }
            return best[what];
        }

        int can(int n, int hour) {
            if (!in(n, 1, 2) || !in(hour, 0, 3)) return refuse(BAD);
            int many = 0;
            for (int a = 0; a < shapes.size(); a++) {
                if (n == 1 && leastOf(List.of(a), hour, 63) != null) many++;
                for (int b = 0; b < shapes.size() && n == 2; b++) many += leastOf(List.of(a, b), hour, 63) != null ? 1 : 0;
            }
            return many;
        }

        int bars(int number, int hour) {
            List<Integer> word = word(number);
            if (word == null || !in(hour, 0, 3)) return refuse(BAD);
            if (leastOf(word, hour, 63) != null) return NONE;
            int bits = 0;
            for (int y = 0; y + 4 <= high; y++) {
                boolean stands = false;
                for (int x = 0; x + 3 <= wide; x++) {
                    if (best(word.get(0), x, y, hour, word, 63, new HashMap<>()) != null) stands = true;
                }
                if (!stands) bits |= 1 << y;
            }
            return bits;
        }

        int reading(int w, int l, int as) {
            if (!boxAt(w) || !letterIs(l) || as != NONE && !letterIs(as)) return refuse(BAD);
            if (readings.size() == 6) return refuse(FULL);
            readings.add(new int[] {w, l, as});
            return readings.size() - 1;
        }

        int unread() {
            int had = readings.size();
            readings.clear();
            return had;
        }

        boolean explained(List<Integer> dark) {
            for (int[] r : readings) {
                int shown = 0;
                for (int c = 0; c < 12; c++) {
                    int w = r[0] + 12 * (c / 3) + c % 3;
                    if ((shapes.get(r[1]) >> c & 1) == 1 && !dark.contains(w)) shown |= 1 << c;
                }
                if (readAs(shown) != r[2]) return false;
            }
            return true;
        }

        int dead(int what) {
            if (!in(what, 0, 3)) return refuse(BAD);
            List<List<Integer>> all = new ArrayList<>();
            all.add(List.of());
            for (int a = 0; a < 60; a++) if (window(a)) all.add(List.of(a));
            for (int a = 0; a < 60; a++) {
                for (int b = a + 1; b < 60; b++) if (window(a) && window(b)) all.add(List.of(a, b));
            }
            int sets = 0;
            List<Integer> first = null;
            for (List<Integer> dark : all) {
                if (!explained(dark)) continue;
                if (first == null) first = dark;
                sets++;
            }
            if (what == 0) return sets;
            if (first == null) return refuse(NO);
            if (what == 1) return first.size();
            return first.isEmpty() ? NONE : first.get(what == 2 ? 0 : first.size() - 1);
        }

        static final Map<Integer, Integer> UNLIKE = new HashMap<>();

        int unlike(int k, int d, int from, List<Integer> taken) {
            int most = taken.size();
            for (int s = from; s < 1 << k; s++) {
                boolean apart = true;
                for (int t : taken) apart &= unlike(s, t) >= d;
                if (!apart) continue;
                // What is left can not make more than the most so far.
                if (taken.size() + (1 << k) - s <= most) break;
                taken.add(s);
                most = Math.max(most, unlike(k, d, s + 1, taken));
                taken.remove(taken.size() - 1);
                if (d == 1 || d == 2 && most == 1 << k - 1) break;
            }
            return most;
        }

        int unlikeOf(int k, int d) {
            return UNLIKE.computeIfAbsent(10 * k + d, key -> unlike(k, d, 0, new ArrayList<>()));
        }

        int unlikeAnswer(int k, int d) {
            return in(k, 1, 5) && in(d, 1, k) ? unlikeOf(k, d) : refuse(BAD);
        }

        int image(int i) {
            if (!in(i, 0, 1)) return refuse(BAD);
            images[i] = new Model();
            images[i].copy(this);
            return 1;
        }

        int from(int i) {
            if (!in(i, 0, 1)) return refuse(BAD);
            if (images[i] == null) return refuse(NO);
            copy(images[i]);
            return 1;
        }

        int status(int what) {
            if (in(what, 0, 2)) return refusals[what];
            refuse(BAD);
            return NONE;
        }

        int[] counts() {
            return new int[] {wide, high, tenants.size(), shapes.size(), readings.size(), text.length()};
        }

        int count(int what) {
            return in(what, 0, 5) ? counts()[what] : refuse(BAD);
        }

        long digest() {
            List<Integer> all = new ArrayList<>();
            for (int v : counts()) all.add(v);
            for (int[] t : tenants) for (int v : t) all.add(v);
            for (int y = 0; y < high; y++) {
                for (int x = 0; x < wide; x++) {
                    all.add(owner[x][y]);
                    for (int hour = 0; hour < 4; hour++) all.add(lights[hour][x][y] ? 1 : 0);
                }
            }
            all.addAll(shapes);
            all.add(slack);
            for (int[] r : readings) for (int v : r) all.add(v);
            long h = 673;
            for (int v : all) h = 31 * h + v;
            return h;
        }
    }
}
