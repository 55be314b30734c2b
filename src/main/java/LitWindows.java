/**
 * A wall of windows that are lit or dark, the tenants who will or will not change them, the letters that
 * pilots read in them, and the words that can be said so. The document's promises are told by its public
 * face; all rows are made in the constructor and used again, so that no call makes an object.
 */
public final class LitWindows {
    public static final int NONE = -1, BAD = -2, NO = -3, FULL = -4;

    // A WINDOW's number is ROW times y and x, however wide the wall is.
    private static final int ROW = 12;
    private static final int WINDOWS = 60;
    private static final int LEAST_WIDE = 3, MOST_WIDE = 12, LEAST_HIGH = 4, MOST_HIGH = 5;
    private static final int HOURS = 4, FIRST_NIGHT_HOUR = 2;
    private static final int TENANTS = 6, LETTERS = 6, READINGS = 6, IMAGES = 2;
    private static final int MOST_PAIN = 9, MOST_PAY = 99, MOST_SLACK = 3;
    private static final int SLEEPS = 1, WORKS = 2, OLD = 3, STUBBORN = 4, KIND = 5;
    private static final int ALL_TENANTS = 63;

    private static final int BOX_WIDE = 3, BOX_HIGH = 4, CELLS = 12, ONE_LINE = 7, ALL_CELLS = 4095;
    private static final int LEFT_CELLS = 0x249, MIDDLE_CELLS = 0x492;
    // Deviations of none, one, two or three of the 12 cells: 1 + 12 + 66 + 220.
    private static final int DEVIATIONS = 299;

    private static final int MOST_IN_WORD = 3, GREATEST_WORD = 666;
    private static final int STEP = BOX_WIDE + 1;
    // A word of two on the widest, highest wall has the most places: 21 pairs of columns, 2 heights.
    private static final int PLACES = 42;
    private static final int NEVER = 1000000;

    private static final int TEXT = 200;
    // Each item has a word and its end at least.
    private static final int ITEMS = TEXT / 2;
    private static final int MOST_NUMBERS = 3;
    private static final int BLANK = 32;
    private static final int ITEM_WALL = 0, ITEM_TENANT = 1, ITEM_HAS = 2, ITEM_LETTER = 3, ITEM_LIT = 4, ITEM_SLACK = 5;
    private static final int ITEM_WORDS = 6;
    private static final int TOKEN_WORD = 0, TOKEN_NUMBER = 1, TOKEN_STOP = 2, TOKEN_END = 3, TOKEN_FAULTY = 4;
    private static final int MOST_FIGURES = 4;

    private static final int REFUSED_TOLD_APART = -10, NOT_SO_MANY = -5;
    private static final int FAULT_AT = -10, ITEM_REFUSED = -1000;
    private static final int MOST_CELLS_UNLIKE = 5;

    private final Wall wall = new Wall();
    private final Wall planned = new Wall();
    private final Wall firstImage = new Wall();
    private final Wall secondImage = new Wall();
    private boolean firstKept = false;
    private boolean secondKept = false;
    private final Plan plan = new Plan();
    private final Word asked = new Word();
    private final Word askedBeside = new Word();
    private final LeastPains leastPains = new LeastPains();
    private final Pictures pictures = new Pictures();
    private final Pictures otherPictures = new Pictures();
    private final DarkLamps darkLamps = new DarkLamps();
    private int wereBad = 0;
    private int wereNo = 0;
    private int wereFull = 0;

    // A Wall begins as the document asks of a new object: the widest, the highest, nobody there.
    public LitWindows() {
    }

    // ---- a wall

    public int wall(int w, int h) {
        return counted(wall.setSize(w, h));
    }

    public int tenant(int kind, int pain, int pay) {
        return counted(wall.addTenant(kind, pain, pay));
    }

    public int refuses(int tenant, int letter) {
        return countedApart(wall.setRefused(tenant, letter));
    }

    public int has(int window, int tenant) {
        return countedApart(wall.setOwner(window, tenant));
    }

    public int letter(int shape) {
        return counted(wall.addLetter(shape));
    }

    public int lit(int hour, int window, boolean is) {
        return counted(wall.setLit(hour, window, is));
    }

    public int slack(int v) {
        return counted(wall.setSlack(v));
    }

    public int pains(int window, int hour) {
        if (!isHour(hour) || !wall.isWindow(window)) return counted(BAD);
        return wall.painsOfChange(window, hour);
    }

    public int type(long v, int n) {
        return counted(plan.addBytes(v, n));
    }

    public int clear() {
        return plan.empty();
    }

    public int read() {
        int fault = plan.parse();
        if (fault != NONE) return FAULT_AT - fault;
        planned.beAnew(MOST_WIDE, MOST_HIGH);
        int refused = plan.tellTo(planned);
        if (refused != NONE) return ITEM_REFUSED - refused;
        wall.beLike(planned);
        return plan.items;
    }

    // ---- what it says

    public int reads(int shape, boolean behind) {
        if (!isShape(shape)) return counted(BAD);
        return wall.readAs(seen(shape, behind));
    }

    public int shape(int hour, int window) {
        if (!isHour(hour) || !wall.isBox(window)) return counted(BAD);
        return shapeIn(wall.litIn[hour], window);
    }

    public int says(int hour, int y, int letter, boolean behind) {
        if (!isHour(hour) || !wall.isTop(y) || !wall.isLetter(letter)) return counted(BAD);
        int columns = 0;
        for (int x = 0; x <= wall.wide - BOX_WIDE; x++) {
            int shown = shapeIn(wall.litIn[hour], ROW * y + x);
            if (wall.readAs(seen(shown, behind)) == letter) columns |= 1 << x;
        }
        return columns;
    }

    // ---- words

    public int least(int word, int hour) {
        if (!isAsked(word, hour)) return counted(BAD);
        leastPains.find(wall, asked, hour);
        return leastPains.pains;
    }

    public int box(int word, int hour, int i, int what) {
        if (!isAsked(word, hour) || i < 0 || what < 0 || what > 1) return countedApart(BAD);
        leastPains.find(wall, asked, hour);
        if (leastPains.pains == NONE || i >= asked.length || i >= MOST_IN_WORD) return NOT_SO_MANY;
        return what == 0 ? leastPains.windows[i] : leastPains.shapes[i];
    }

    public int two(int a, int hourA, int b, int hourB) {
        if (!isAsked(a, hourA) || !isHour(hourB) || !askedBeside.spell(b, wall.letters)) return counted(BAD);
        pictures.find(wall, asked, hourA);
        otherPictures.find(wall, askedBeside, hourB);
        return pictures.fewestUnlike(otherPictures);
    }

    public int bought(int word, int hour, int what) {
        if (!isAsked(word, hour) || what < 0 || what > 1) return counted(BAD);
        int leastPay = NONE;
        int leastSet = NONE;
        for (int set = 0; set < 1 << wall.tenants; set++) {
            int pay = wall.payOf(set);
            if (leastSet != NONE && pay >= leastPay) continue;
            if (wall.canBeSaid(asked, hour, wall.changeable(hour, asked.bits, set))) {
                leastPay = pay;
                leastSet = set;
            }
        }
        return what == 0 ? leastPay : leastSet;
    }

    public int can(int n, int hour) {
        if (n < 1 || n > 2 || !isHour(hour)) return counted(BAD);
        int rows = 0;
        for (int number = 1; number <= GREATEST_WORD / 10; number++) {
            if (!asked.spell(number, wall.letters) || asked.length != n) continue;
            if (wall.canBeSaid(asked, hour, wall.changeable(hour, asked.bits, ALL_TENANTS))) rows++;
        }
        return rows;
    }

    public int bars(int word, int hour) {
        if (!isAsked(word, hour)) return counted(BAD);
        long may = wall.changeable(hour, asked.bits, ALL_TENANTS);
        if (wall.canBeSaid(asked, hour, may)) return NONE;
        int barred = 0;
        for (int y = 0; y <= wall.high - BOX_HIGH; y++) {
            if (wall.firstColumn(asked.letters[0], y, 0, hour, may) == NONE) barred |= 1 << y;
        }
        return barred;
    }

    // ---- lamps

    public int reading(int window, int letter, int as) {
        return counted(wall.addReading(window, letter, as));
    }

    public int unread() {
        int were = wall.readings;
        wall.readings = 0;
        return were;
    }

    public int dead(int what) {
        if (what < 0 || what > 3) return counted(BAD);
        darkLamps.find(wall);
        if (what == 0) return darkLamps.sets;
        if (darkLamps.sets == 0) return counted(NO);
        if (what == 1) return darkLamps.size;
        return what == 2 ? darkLamps.least : darkLamps.greatest;
    }

    public int unlike(int k, int d) {
        if (k < 1 || k > MOST_CELLS_UNLIKE || d < 1 || d > k) return counted(BAD);
        return mostUnlike(k, d);
    }

    // ---- what there is

    public int image(int i) {
        if (i < 0 || i >= IMAGES) return counted(BAD);
        if (i == 0) {
            firstImage.beLike(wall);
            firstKept = true;
        } else {
            secondImage.beLike(wall);
            secondKept = true;
        }
        return 1;
    }

    public int from(int i) {
        if (i < 0 || i >= IMAGES) return counted(BAD);
        if (i == 0 ? !firstKept : !secondKept) return counted(NO);
        wall.beLike(i == 0 ? firstImage : secondImage);
        return 1;
    }

    public int status(int what) {
        switch (what) {
            case 0: return wereBad;
            case 1: return wereNo;
            case 2: return wereFull;
            default:
                wereBad++;
                return NONE;
        }
    }

    public int count(int what) {
        return counted(howMany(what));
    }

    public long digest() {
        long h = 673;
        for (int what = 0; what <= 5; what++) h = 31 * h + howMany(what);
        return wall.digestOn(h);
    }

    private int howMany(int what) {
        switch (what) {
            case 0: return wall.wide;
            case 1: return wall.high;
            case 2: return wall.tenants;
            case 3: return wall.letters;
            case 4: return wall.readings;
            case 5: return plan.length;
            default: return BAD;
        }
    }

    // No answer that is due is one of the three refusals, so the answer itself tells what to count.
    private int counted(int answer) {
        if (answer == BAD) wereBad++;
        if (answer == NO) wereNo++;
        if (answer == FULL) wereFull++;
        return answer;
    }

    private int countedApart(int answer) {
        return counted(answer) == BAD ? REFUSED_TOLD_APART : answer;
    }

    private boolean isAsked(int number, int hour) {
        return isHour(hour) && asked.spell(number, wall.letters);
    }

    private static boolean isHour(int hour) {
        return hour >= 0 && hour < HOURS;
    }

    private static boolean isShape(int shape) {
        return shape >= 0 && shape <= ALL_CELLS;
    }

    private static int seen(int shape, boolean behind) {
        if (!behind) return shape;
        return ((shape & LEFT_CELLS) << 2) | (shape & MIDDLE_CELLS) | ((shape >> 2) & LEFT_CELLS);
    }

    // The window left above tells where the box stands; it must be a box's, or the shifts run out.
    private static int shapeIn(long windows, int window) {
        int shape = 0;
        for (int v = 0; v < BOX_HIGH; v++) {
            shape |= (int) ((windows >>> (window + ROW * v)) & ONE_LINE) << (BOX_WIDE * v);
        }
        return shape;
    }

    private static long windowsOf(int shape, int window) {
        long windows = 0;
        for (int v = 0; v < BOX_HIGH; v++) {
            windows |= (long) ((shape >> (BOX_WIDE * v)) & ONE_LINE) << (window + ROW * v);
        }
        return windows;
    }

    // These are the known sizes of the greatest binary codes of so few cells; beside d = 1 (all shapes),
    // d = 2 (those with an even number of cells) and 5 cells with d = 3, only two can be so unlike.
    private static int mostUnlike(int k, int d) {
        if (d == 1) return 1 << k;
        if (d == 2) return 1 << (k - 1);
        return k == 5 && d == 3 ? 4 : 2;
    }

    /** Letters in a row, as the digits of a number tell them. */
    private static final class Word {
        final int[] letters = new int[MOST_IN_WORD];
        int length = 0;
        int bits = 0;

        boolean spell(int number, int known) {
            if (number < 1 || number > GREATEST_WORD) return false;
            length = number >= 100 ? 3 : number >= 10 ? 2 : 1;
            bits = 0;
            int rest = number;
            for (int i = length - 1; i >= 0; i--) {
                int digit = rest % 10;
                if (digit < 1 || digit > known) return false;
                letters[i] = digit - 1;
                bits |= 1 << (digit - 1);
                rest = rest / 10;
            }
            return true;
        }
    }

    /** All that an image keeps: the wall, who lives there, the letters and the readings. */
    private static final class Wall {
        int wide = MOST_WIDE;
        int high = MOST_HIGH;
        int slackNow = 0;
        int tenants = 0;
        int letters = 0;
        int readings = 0;
        final int[] kinds = new int[TENANTS];
        final int[] painOf = new int[TENANTS];
        final int[] payFor = new int[TENANTS];
        final int[] refused = new int[TENANTS];
        final long[] owned = new long[TENANTS];
        final long[] litIn = new long[HOURS];
        final int[] shapes = new int[LETTERS];
        final int[] readAt = new int[READINGS];
        final int[] meant = new int[READINGS];
        final int[] readSo = new int[READINGS];

        void beAnew(int newWide, int newHigh) {
            wide = newWide;
            high = newHigh;
            slackNow = 0;
            tenants = 0;
            letters = 0;
            readings = 0;
            for (int hour = 0; hour < HOURS; hour++) litIn[hour] = 0;
        }

        void beLike(Wall other) {
            wide = other.wide;
            high = other.high;
            slackNow = other.slackNow;
            tenants = other.tenants;
            letters = other.letters;
            readings = other.readings;
            System.arraycopy(other.kinds, 0, kinds, 0, TENANTS);
            System.arraycopy(other.painOf, 0, painOf, 0, TENANTS);
            System.arraycopy(other.payFor, 0, payFor, 0, TENANTS);
            System.arraycopy(other.refused, 0, refused, 0, TENANTS);
            System.arraycopy(other.owned, 0, owned, 0, TENANTS);
            System.arraycopy(other.litIn, 0, litIn, 0, HOURS);
            System.arraycopy(other.shapes, 0, shapes, 0, LETTERS);
            System.arraycopy(other.readAt, 0, readAt, 0, READINGS);
            System.arraycopy(other.meant, 0, meant, 0, READINGS);
            System.arraycopy(other.readSo, 0, readSo, 0, READINGS);
        }

        boolean isWindow(int window) {
            return window >= 0 && window < WINDOWS && isWindowAt(window % ROW, window / ROW);
        }

        boolean isWindowAt(int x, int y) {
            return x >= 0 && x < wide && y >= 0 && y < high;
        }

        boolean isBox(int window) {
            return isWindow(window) && window % ROW <= wide - BOX_WIDE && isTop(window / ROW);
        }

        boolean isTop(int y) {
            return y >= 0 && y <= high - BOX_HIGH;
        }

        boolean isTenant(int tenant) {
            return tenant >= 0 && tenant < tenants && tenant < TENANTS;
        }

        boolean isLetter(int letter) {
            return letter >= 0 && letter < letters && letter < LETTERS;
        }

        int setSize(int newWide, int newHigh) {
            if (newWide < LEAST_WIDE || newWide > MOST_WIDE) return BAD;
            if (newHigh < LEAST_HIGH || newHigh > MOST_HIGH) return BAD;
            beAnew(newWide, newHigh);
            return 1;
        }

        int addTenant(int kind, int pain, int pay) {
            if (kind < 0 || kind > KIND || pain < 0 || pain > MOST_PAIN || pay < 0 || pay > MOST_PAY) return BAD;
            if (tenants >= TENANTS) return FULL;
            kinds[tenants] = kind;
            painOf[tenants] = pain;
            payFor[tenants] = pay;
            refused[tenants] = NONE;
            owned[tenants] = 0;
            tenants++;
            return tenants - 1;
        }

        int setRefused(int tenant, int letter) {
            if (!isTenant(tenant) || letter != NONE && !isLetter(letter)) return BAD;
            int was = refused[tenant];
            refused[tenant] = letter;
            return was;
        }

        int setOwner(int window, int tenant) {
            if (!isWindow(window) || tenant != NONE && !isTenant(tenant)) return BAD;
            int was = ownerOf(window);
            if (was != NONE) owned[was] &= ~(1L << window);
            if (tenant != NONE) owned[tenant] |= 1L << window;
            return was;
        }

        int ownerOf(int window) {
            for (int tenant = 0; tenant < tenants; tenant++) {
                if (((owned[tenant] >>> window) & 1) == 1) return tenant;
            }
            return NONE;
        }

        int addLetter(int shape) {
            if (!isShape(shape)) return BAD;
            for (int letter = 0; letter < letters; letter++) {
                if (shapes[letter] == shape) return BAD;
            }
            if (letters >= LETTERS) return FULL;
            shapes[letters] = shape;
            letters++;
            return letters - 1;
        }

        int setLit(int hour, int window, boolean is) {
            if (!isHour(hour) || !isWindow(window)) return BAD;
            if (isLit(hour, window) == is) return NO;
            litIn[hour] ^= 1L << window;
            return 1;
        }

        boolean isLit(int hour, int window) {
            return ((litIn[hour] >>> window) & 1) == 1;
        }

        int setSlack(int v) {
            if (v < 0 || v > MOST_SLACK) return BAD;
            int was = slackNow;
            slackNow = v;
            return was;
        }

        int addReading(int window, int letter, int as) {
            if (!isBox(window) || !isLetter(letter) || as != NONE && !isLetter(as)) return BAD;
            if (readings >= READINGS) return FULL;
            readAt[readings] = window;
            meant[readings] = letter;
            readSo[readings] = as;
            readings++;
            return readings - 1;
        }

        int readAs(int shape) {
            int fewest = slackNow + 1;
            int nearest = NONE;
            for (int letter = 0; letter < letters; letter++) {
                int differ = Integer.bitCount(shape ^ shapes[letter]);
                if (differ < fewest) {
                    fewest = differ;
                    nearest = letter;
                } else if (differ == fewest) {
                    nearest = NONE;
                }
            }
            return nearest;
        }

        int painsOfChange(int window, int hour) {
            int tenant = ownerOf(window);
            if (tenant == NONE || kinds[tenant] == STUBBORN && !isLit(hour, window)) return NONE;
            return painsOfTenant(kinds[tenant], painOf[tenant], hour);
        }

        static int painsOfTenant(int kind, int pain, int hour) {
            int asleep = hour >= FIRST_NIGHT_HOUR ? 2 * pain : pain;
            switch (kind) {
                case SLEEPS: return asleep;
                case WORKS: return hour < FIRST_NIGHT_HOUR ? 0 : pain;
                case OLD: return asleep + 3;
                case STUBBORN: return asleep + 3;
                case KIND: return 0;
                default: return pain;
            }
        }

        // The windows that may be changed for a word (its letters as bits) by a set of tenants.
        long changeable(int hour, int wordBits, int set) {
            long may = 0;
            for (int tenant = 0; tenant < tenants; tenant++) {
                boolean serves = refused[tenant] == NONE || ((wordBits >> refused[tenant]) & 1) == 0;
                if (((set >> tenant) & 1) == 0 || !serves) continue;
                may |= kinds[tenant] == STUBBORN ? owned[tenant] & litIn[hour] : owned[tenant];
            }
            return may;
        }

        int payOf(int set) {
            int pay = 0;
            for (int tenant = 0; tenant < tenants; tenant++) {
                if (((set >> tenant) & 1) == 1) pay += payFor[tenant];
            }
            return pay;
        }

        // Where a deviation from a letter is read as the letter, so is one with fewer of its cells: the
        // distance to the letter falls by one for each, to the others by one at most. So only the one
        // with the least cells must be looked at: those that must stay wrong.
        boolean fits(int letter, int window, int hour, long may) {
            int mustStay = ~shapeIn(may, window) & ALL_CELLS;
            int wrong = (shapes[letter] ^ shapeIn(litIn[hour], window)) & mustStay;
            return readAs(shapes[letter] ^ wrong) == letter;
        }

        int firstColumn(int letter, int y, int from, int hour, long may) {
            for (int x = from; x <= wide - BOX_WIDE; x++) {
                if (fits(letter, ROW * y + x, hour, may)) return x;
            }
            return NONE;
        }

        boolean canBeSaid(Word said, int hour, long may) {
            for (int y = 0; y <= high - BOX_HIGH; y++) {
                if (canBeSaidAt(said, y, hour, may)) return true;
            }
            return false;
        }

        // A box as far to the left as can be leaves the most room for the next.
        boolean canBeSaidAt(Word said, int y, int hour, long may) {
            int free = 0;
            for (int i = 0; i < said.length; i++) {
                int x = firstColumn(said.letters[i], y, free, hour, may);
                if (x == NONE) return false;
                free = x + STEP;
            }
            return true;
        }

        long digestOn(long before) {
            long h = before;
            for (int t = 0; t < tenants; t++) {
                h = 31 * h + kinds[t];
                h = 31 * h + painOf[t];
                h = 31 * h + payFor[t];
                h = 31 * h + refused[t];
            }
            for (int y = 0; y < high; y++) {
                for (int x = 0; x < wide; x++) h = digestOfWindow(h, ROW * y + x);
            }
            for (int letter = 0; letter < letters; letter++) h = 31 * h + shapes[letter];
            h = 31 * h + slackNow;
            for (int r = 0; r < readings; r++) {
                h = 31 * h + readAt[r];
                h = 31 * h + meant[r];
                h = 31 * h + readSo[r];
            }
            return h;
        }

        long digestOfWindow(long before, int window) {
            long h = 31 * before + ownerOf(window);
            for (int hour = 0; hour < HOURS; hour++) h = 31 * h + (isLit(hour, window) ? 1 : 0);
            return h;
        }
    }

    /** The places of a word on a wall, by y, then by the columns of its boxes from the first on. */
    private static final class Places {
        final int[] columns = new int[MOST_IN_WORD];
        int y = 0;
        private int boxes = 0;
        private int lastColumn = 0;
        private int lastTop = 0;

        boolean begin(int length, Wall on) {
            boxes = length;
            lastColumn = on.wide - BOX_WIDE;
            lastTop = on.high - BOX_HIGH;
            y = 0;
            packFrom(0, 0);
            return mostToRight(0) >= 0;
        }

        boolean goOn() {
            for (int i = boxes - 1; i >= 0; i--) {
                if (columns[i] < mostToRight(i)) {
                    packFrom(i, columns[i] + 1);
                    return true;
                }
            }
            y++;
            packFrom(0, 0);
            return y <= lastTop;
        }

        int window(int i) {
            return ROW * y + columns[i];
        }

        int mostToRight(int i) {
            return lastColumn - STEP * (boxes - 1 - i);
        }

        private void packFrom(int first, int column) {
            for (int i = first; i < boxes; i++) columns[i] = column + STEP * (i - first);
        }
    }

    /** How a word is placed and shaped with the least pains. */
    private static final class LeastPains {
        int pains = NONE;
        final int[] windows = new int[MOST_IN_WORD];
        final int[] shapes = new int[MOST_IN_WORD];
        private final Places places = new Places();
        private final int[] deviations = new int[DEVIATIONS];
        private final int[] painsOfCell = new int[CELLS];
        // By letter of the word and by window; only what the word's places ask for is told.
        private final int[][] painsAt = new int[MOST_IN_WORD][WINDOWS];
        private final int[][] shapeAt = new int[MOST_IN_WORD][WINDOWS];

        LeastPains() {
            int known = 1;
            int first = 0;
            for (int cells = 1; cells <= MOST_SLACK; cells++) {
                int end = known;
                for (int k = first; k < end; k++) known = addLarger(deviations[k], known);
                first = end;
            }
        }

        // A cell more, above all those that are there, makes each deviation once.
        private int addLarger(int deviation, int known) {
            int end = known;
            for (int cell = 0; cell < CELLS; cell++) {
                if (deviation >> cell == 0 && end < DEVIATIONS) {
                    deviations[end] = deviation | (1 << cell);
                    end++;
                }
            }
            return end;
        }

        void find(Wall on, Word said, int hour) {
            pains = NONE;
            if (!places.begin(said.length, on)) return;
            shapeAllBoxes(on, said, hour);
            int fewest = NEVER;
            for (int k = 0; k < PLACES; k++) {
                int sum = 0;
                for (int i = 0; i < said.length; i++) sum += painsAt[i][places.window(i)];
                if (sum < fewest) {
                    fewest = sum;
                    keepPlace(said.length);
                }
                if (!places.goOn()) break;
            }
            if (fewest < NEVER) pains = fewest;
        }

        private void shapeAllBoxes(Wall on, Word said, int hour) {
            long may = on.changeable(hour, said.bits, ALL_TENANTS);
            for (int i = 0; i < said.length; i++) {
                for (int y = 0; y <= on.high - BOX_HIGH; y++) {
                    for (int x = STEP * i; x <= places.mostToRight(i); x++) {
                        shapeBox(on, i, said.letters[i], ROW * y + x, hour, may);
                    }
                }
            }
        }

        private void shapeBox(Wall on, int i, int letter, int window, int hour, long may) {
            int nature = shapeIn(on.litIn[hour], window);
            int mustStay = ~shapeIn(may, window) & ALL_CELLS;
            tellCells(on, window, hour);
            int fewest = NEVER;
            int chosen = 0;
            for (int k = 0; k < DEVIATIONS && Integer.bitCount(deviations[k]) <= on.slackNow; k++) {
                int made = on.shapes[letter] ^ deviations[k];
                int change = made ^ nature;
                if ((change & mustStay) != 0) continue;
                int sum = painsOfCells(change);
                boolean better = sum < fewest || sum == fewest && made < chosen;
                if (better && on.readAs(made) == letter) {
                    fewest = sum;
                    chosen = made;
                }
            }
            painsAt[i][window] = fewest;
            shapeAt[i][window] = chosen;
        }

        private void tellCells(Wall on, int window, int hour) {
            for (int cell = 0; cell < CELLS; cell++) {
                int at = window + ROW * (cell / BOX_WIDE) + cell % BOX_WIDE;
                painsOfCell[cell] = on.painsOfChange(at, hour);
            }
        }

        private int painsOfCells(int change) {
            int sum = 0;
            for (int cell = 0; cell < CELLS; cell++) {
                if (((change >> cell) & 1) == 1) sum += painsOfCell[cell];
            }
            return sum;
        }

        private void keepPlace(int length) {
            for (int i = 0; i < length; i++) {
                windows[i] = places.window(i);
                shapes[i] = shapeAt[i][windows[i]];
            }
        }
    }

    /** The wall in an hour as each place of a word would make it, the boxes just as their shapes. */
    private static final class Pictures {
        final long[] lights = new long[PLACES];
        int known = 0;
        private final Places places = new Places();

        void find(Wall on, Word said, int hour) {
            known = 0;
            if (!places.begin(said.length, on)) return;
            long may = on.changeable(hour, said.bits, ALL_TENANTS);
            for (int k = 0; k < PLACES; k++) {
                long made = picture(on, said, on.litIn[hour]);
                if (((made ^ on.litIn[hour]) & ~may) == 0 && known < PLACES) {
                    lights[known] = made;
                    known++;
                }
                if (!places.goOn()) break;
            }
        }

        private long picture(Wall on, Word said, long nature) {
            long made = nature;
            for (int i = 0; i < said.length; i++) {
                int window = places.window(i);
                made &= ~windowsOf(ALL_CELLS, window);
                made |= windowsOf(on.shapes[said.letters[i]], window);
            }
            return made;
        }

        int fewestUnlike(Pictures others) {
            int fewest = NONE;
            for (int k = 0; k < known; k++) {
                for (int j = 0; j < others.known; j++) {
                    int unlike = Long.bitCount(lights[k] ^ others.lights[j]);
                    if (fewest == NONE || unlike < fewest) fewest = unlike;
                }
            }
            return fewest;
        }
    }

    /** The sets of none, one or two windows that stay dark by which each reading is so. */
    private static final class DarkLamps {
        int sets = 0;
        int size = 0;
        int least = NONE;
        int greatest = NONE;
        private final int[] windows = new int[WINDOWS];
        private final long[] shown = new long[READINGS];
        private final boolean[] soWithout = new boolean[READINGS];

        void find(Wall on) {
            int known = tellWindows(on);
            tellReadings(on);
            sets = 0;
            look(on, 0, NONE, NONE);
            for (int i = 0; i < known; i++) look(on, 1, windows[i], windows[i]);
            for (int i = 0; i < known; i++) {
                for (int j = i + 1; j < known; j++) look(on, 2, windows[i], windows[j]);
            }
        }

        private int tellWindows(Wall on) {
            int known = 0;
            for (int window = 0; window < WINDOWS; window++) {
                if (on.isWindow(window)) {
                    windows[known] = window;
                    known++;
                }
            }
            return known;
        }

        private void tellReadings(Wall on) {
            for (int r = 0; r < on.readings; r++) {
                int shape = on.shapes[on.meant[r]];
                shown[r] = windowsOf(shape, on.readAt[r]);
                soWithout[r] = on.readAs(shape) == on.readSo[r];
            }
        }

        private void look(Wall on, int many, int first, int second) {
            long dark = (first == NONE ? 0 : 1L << first) | (second == NONE ? 0 : 1L << second);
            if (!tellsAll(on, dark)) return;
            if (sets == 0) {
                size = many;
                least = first;
                greatest = second;
            }
            sets++;
        }

        private boolean tellsAll(Wall on, long dark) {
            for (int r = 0; r < on.readings; r++) {
                if (!tells(on, r, dark)) return false;
            }
            return true;
        }

        // Most sets leave a box as it was; its reading without them is known.
        private boolean tells(Wall on, int r, long dark) {
            if ((shown[r] & dark) == 0) return soWithout[r];
            return on.readAs(shapeIn(shown[r] & ~dark, on.readAt[r])) == on.readSo[r];
        }
    }

    /** The text that tells a wall, and the items that were found in it. */
    private static final class Plan {
        int length = 0;
        int items = 0;
        private final int[] bytes = new int[TEXT];
        private final int[] words = new int[ITEMS];
        private final int[] numbers = new int[ITEMS * MOST_NUMBERS];
        private int place = 0;
        private int token = TOKEN_END;
        private int tokenAt = 0;
        private int tokenValue = 0;

        int addBytes(long v, int n) {
            if (n < 1 || n > 8) return BAD;
            if (length + n > TEXT) return FULL;
            for (int k = n - 1; k >= 0; k--) {
                bytes[length] = (int) ((v >>> (8 * k)) & 255);
                length++;
            }
            return length;
        }

        int empty() {
            int had = length;
            length = 0;
            return had;
        }

        // The place of the fault, or NONE.
        int parse() {
            items = 0;
            place = 0;
            while (items < ITEMS) {
                takeToken();
                if (token == TOKEN_END) return NONE;
                if (token != TOKEN_WORD) return tokenAt;
                if (!takeItem(tokenValue)) return tokenAt;
                items++;
            }
            takeToken();
            return token == TOKEN_END ? NONE : tokenAt;
        }

        private boolean takeItem(int item) {
            words[items] = item;
            for (int i = 0; i < numbersOf(item); i++) {
                takeToken();
                if (token != TOKEN_NUMBER) return false;
                numbers[items * MOST_NUMBERS + i] = tokenValue;
            }
            takeToken();
            return token == TOKEN_STOP;
        }

        private void takeToken() {
            while (place < length && bytes[place] == BLANK) place++;
            tokenAt = place;
            if (place >= length) {
                token = TOKEN_END;
            } else if (isFigure(bytes[place])) {
                takeNumber();
            } else if (isSmallLetter(bytes[place])) {
                takeWord();
            } else {
                token = bytes[place] == ';' ? TOKEN_STOP : TOKEN_FAULTY;
                place++;
            }
        }

        private void takeNumber() {
            tokenValue = 0;
            while (place < length && isFigure(bytes[place])) {
                // So long a run is no number; its value must not run over before that is seen.
                if (place - tokenAt < MOST_FIGURES) tokenValue = 10 * tokenValue + bytes[place] - '0';
                place++;
            }
            token = place - tokenAt > MOST_FIGURES ? TOKEN_FAULTY : TOKEN_NUMBER;
        }

        private void takeWord() {
            while (place < length && isSmallLetter(bytes[place])) place++;
            token = TOKEN_FAULTY;
            for (int item = 0; item < ITEM_WORDS; item++) {
                if (isTokenText(wordOf(item))) {
                    token = TOKEN_WORD;
                    tokenValue = item;
                }
            }
        }

        private boolean isTokenText(String name) {
            if (name.length() != place - tokenAt) return false;
            for (int k = 0; k < name.length(); k++) {
                if (name.charAt(k) != bytes[tokenAt + k]) return false;
            }
            return true;
        }

        private static boolean isFigure(int sign) {
            return sign >= '0' && sign <= '9';
        }

        private static boolean isSmallLetter(int sign) {
            return sign >= 'a' && sign <= 'z';
        }

        private static String wordOf(int item) {
            switch (item) {
                case ITEM_WALL: return "wall";
                case ITEM_TENANT: return "tenant";
                case ITEM_HAS: return "has";
                case ITEM_LETTER: return "letter";
                case ITEM_LIT: return "lit";
                default: return "slack";
            }
        }

        private static int numbersOf(int item) {
            switch (item) {
                case ITEM_WALL: return 2;
                case ITEM_LETTER: return 1;
                case ITEM_SLACK: return 1;
                default: return 3;
            }
        }

        // The number of the first item that is refused, or NONE.
        int tellTo(Wall to) {
            for (int i = 0; i < items; i++) {
                int answer = tellItem(to, words[i], i * MOST_NUMBERS);
                if (answer == BAD || answer == NO || answer == FULL) return i;
            }
            return NONE;
        }

        private int tellItem(Wall to, int item, int at) {
            int first = numbers[at];
            int second = numbers[at + 1];
            int third = numbers[at + 2];
            switch (item) {
                case ITEM_WALL: return to.setSize(first, second);
                case ITEM_TENANT: return to.addTenant(first, second, third);
                case ITEM_LETTER: return to.addLetter(first);
                case ITEM_SLACK: return to.setSlack(first);
                default:
            }
            // A column past the wall's would be a window of the next row by its number alone.
            if (!to.isWindowAt(second, third)) return BAD;
            int window = ROW * third + second;
            return item == ITEM_HAS ? to.setOwner(window, first) : to.setLit(first, window, true);
        }
    }
}
