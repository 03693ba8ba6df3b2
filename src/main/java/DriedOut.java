/**
 * A boat that has dried out: planks side by side, with gaps between, that are put into water.
 * What each call answers stands in DOC.md, as numbered promises; no call ever throws.
 */
public final class DriedOut {
    public static final int NONE = -1, BAD = -2, STATE = -3, FULL = -4;
    public static final long NO = -4611686018427387904L;

    private static final int NOTHING = -11, OUTSIDE = -12, UNLIKE = -13, BELOW = -14;
    private static final int MOST_PLANKS = 10, MOST_GAPS = MOST_PLANKS - 1;
    private static final int MOST_WET = 100, MOST_NAILS = 99, MOST_WIDE = 200, MOST_STUFFING = 100;
    private static final int MOST_SALT = 9, MOST_PUMP = 9999, MOST_DAYS = 60, LAST_DAY = 9999;
    private static final int MOST_TEXTS = 6, TAPE_SIZE = 160;
    private static final int MOST_SHEETS = 4, SHEET_SIZE = 40, MISSING = -1;
    private static final int SOAK = 0, LEAK = 1, DRIES = 2, PARTS = 3;
    private static final int WET = 0, DRY = 1, NEAR = 2, OLD = 3, DAY = 4, SALT = 5, NAMES = 6;
    private static final String THE_RULE =
        "soak 2 + near * 3 + ( 50 < dry ) * 4 ; leak 2 + salt ; dries 1 + ( 50 < wet ) * 2 ;";

    private final Boat boat = new Boat();
    private final Boat kept = new Boat();
    private boolean isKept;
    private final Reader reader = new Reader();
    private final Rules rules = new Rules();
    private final Forecast forecast = new Forecast(boat, rules);
    private final Sheet[] sheets = new Sheet[MOST_SHEETS];

    public DriedOut() {
        for (int i = 0; i < MOST_SHEETS; i++) {
            sheets[i] = new Sheet();
        }
        for (int i = 0; i < THE_RULE.length(); i++) {
            reader.append((byte) THE_RULE.charAt(i));
        }
        learn();
    }

    // ---- planks, gaps

    public int plank(int kind, int what, int more) {
        if (what < 0 || more < 0) {
            return BAD;
        }
        int wet = what / 1000, width = what % 1000, wide = more / 10, number = more % 10;
        if (!Wood.isKind(kind) || wet > MOST_WET || width < 10 || width > 300 || wide > MOST_WIDE) {
            return BAD;
        }
        return boat.append(kind, wet, width, wide, number);
    }

    public int set(int what, int of, int v) {
        switch (what) {
            case 0: return change(boat.wet, boat.size, of, v, MOST_WET);
            case 1: return change(boat.nailed, boat.size, of, v, MOST_NAILS);
            case 2: return change(boat.wide, boat.gaps(), of, v, MOST_WIDE);
            case 3: return change(boat.stuffing, boat.gaps(), of, v, MOST_STUFFING);
            case 4: return change(boat.fast, boat.gaps(), of, v, 1);
            case 5: return changeSalt(v);
            case 6: return changePump(v);
            default: return BAD;
        }
    }

    private static int change(int[] row, int size, int of, int v, int most) {
        if (of < 0 || of >= size || v < 0 || v > most) {
            return BAD;
        }
        int was = row[of];
        row[of] = v;
        return was;
    }

    private int changeSalt(int v) {
        if (v < 0 || v > MOST_SALT) {
            return BAD;
        }
        int was = boat.salt;
        boat.salt = v;
        return was;
    }

    private int changePump(int v) {
        if (v < 0 || v > MOST_PUMP) {
            return BAD;
        }
        int was = boat.pump;
        boat.pump = v;
        return was;
    }

    public int told(int plank, int what) {
        if (!boat.hasPlank(plank)) {
            return BAD;
        }
        forecast.look(0);
        switch (what) {
            case 0: return boat.kind[plank];
            case 1: return boat.width[plank];
            case 2: return boat.wet[plank];
            case 3: return forecast.grows(0, plank);
            case 4: return forecast.takesUp(0, plank);
            case 5: return boat.bears(plank);
            case 6: return boat.nailed[plank];
            case 7: return boat.number[plank];
            default: return BAD;
        }
    }

    public int gap(int gap, int what) {
        if (!boat.hasGap(gap)) {
            return BAD;
        }
        forecast.look(0);
        switch (what) {
            case 0: return boat.wide[gap];
            case 1: return boat.stuffing[gap];
            case 2: return boat.fast[gap];
            case 3: return forecast.open(0, gap);
            case 4: return forecast.press(0, gap);
            default: return BAD;
        }
    }

    // ---- texts

    public int feed(int n, long bytes) {
        if (n < 1 || n > 8) {
            return BAD;
        }
        if (n > TAPE_SIZE - reader.size) {
            return FULL;
        }
        for (int i = 0; i < n; i++) {
            reader.append((byte) (bytes >>> (8 * i)));
        }
        return reader.size;
    }

    public int text() {
        return rules.size >= MOST_TEXTS ? FULL : learn();
    }

    private int learn() {
        int fault = reader.read();
        reader.size = 0;
        return fault == NONE ? rules.keep(reader) : -100 - fault;
    }

    public int force(int text) {
        if (text < 0 || text >= rules.size) {
            return BAD;
        }
        int was = boat.rule;
        boat.rule = text;
        return was;
    }

    // ---- days

    public int comes() {
        forecast.look(0);
        return forecast.comesIn(0);
    }

    public long run(int n, int of, int what) {
        if (n < 1 || n > MOST_DAYS || !isToldOfRun(of, what)) {
            return NO;
        }
        forecast.look(n);
        switch (what) {
            case 0: return forecast.open(n, of);
            case 1: return forecast.press(n, of);
            case 2: return forecast.wetBehind(n, of);
            case 3: return forecast.gone();
            default: return forecast.cameIn();
        }
    }

    private boolean isToldOfRun(int of, int what) {
        switch (what) {
            case 0: case 1: return boat.hasGap(of);
            case 2: return boat.hasPlank(of);
            case 3: case 4: return true;
            default: return false;
        }
    }

    public int lay(int n) {
        if (n < 1 || n > MOST_DAYS) {
            return BAD;
        }
        forecast.look(n);
        forecast.comeTrue();
        return forecast.gone();
    }

    public int air(int n) {
        if (n < 1 || n > MOST_DAYS) {
            return BAD;
        }
        for (int i = 0; i < n; i++) {
            forecast.dryOneDay();
        }
        return boat.day;
    }

    public int tight() {
        forecast.look(MOST_DAYS);
        for (int d = 0; d <= MOST_DAYS; d++) {
            if (forecast.openGaps(d) == 0) {
                return d;
            }
        }
        return NONE;
    }

    public int out() {
        forecast.look(MOST_DAYS);
        for (int d = 0; d <= MOST_DAYS; d++) {
            if (forecast.comesIn(d) <= boat.pump) {
                return d;
            }
        }
        return NONE;
    }

    // ---- stuffing

    public long sack(int v) {
        if (v < 0 || v > MOST_STUFFING || boat.gaps() == 0) {
            return NO;
        }
        forecast.look(0);
        int comesNow = forecast.comesIn(0);
        int widest = forecast.mostOpen();
        forecast.stuff(widest, withMore(widest, v));
        return comesNow - forecast.comesIn(0);
    }

    private int withMore(int gap, int v) {
        return Math.min(MOST_STUFFING, boat.stuffing[gap] + v);
    }

    public int first(int v) {
        if (v < 1 || v > MOST_STUFFING) {
            return BAD;
        }
        forecast.look(MOST_DAYS);
        int best = NONE, bestGone = 0, bestComes = 0;
        for (int g = 0; g < boat.gaps(); g++) {
            forecast.stuff(g, withMore(g, v));
            int gone = forecast.gone(), comesIn = forecast.comesIn(MOST_DAYS);
            if (best == NONE || gone < bestGone || gone == bestGone && comesIn < bestComes) {
                best = g;
                bestGone = gone;
                bestComes = comesIn;
            }
            forecast.stuff(g, boat.stuffing[g]);
        }
        return best;
    }

    public int most(int gap) {
        if (!boat.hasGap(gap)) {
            return BAD;
        }
        forecast.look(MOST_DAYS);
        forecast.stuff(gap, 0);
        int goneWithout = forecast.gone();
        for (int stuffing = MOST_STUFFING; stuffing > 0; stuffing--) {
            forecast.stuff(gap, stuffing);
            if (forecast.gone() <= goneWithout) {
                return stuffing;
            }
        }
        return 0;
    }

    public int far(int hold) {
        if (hold < 0 || hold > 9999) {
            return BAD;
        }
        forecast.look(0);
        int anHour = (forecast.comesIn(0) + 23) / 24;
        return anHour < 1 ? 999 : Math.min(999, hold / anHour);
    }

    public long nails(int part) {
        if (part != 0 && part != 1) {
            return NO;
        }
        forecast.look(0);
        int above = 10 * boat.allNails(), below = forecast.comesIn(0);
        if (below == 0) {
            return part;
        }
        int divisor = greatestDivisor(above, below);
        return divisor < 1 ? NO : (part == 0 ? above : below) / divisor;
    }

    private static int greatestDivisor(int a, int b) {
        // 64 steps are more than the longest chain of remainders that two ints can have
        for (int i = 0; i < 64 && b != 0; i++) {
            int rest = a % b;
            a = b;
            b = rest;
        }
        return a;
    }

    public int image() {
        kept.size = boat.size;
        kept.takeFrom(boat, boat.size);
        isKept = true;
        return boat.day;
    }

    public int back() {
        if (!isKept) {
            return STATE;
        }
        boat.takeFrom(kept, kept.size);
        return boat.day;
    }

    public int count(int what) {
        switch (what) {
            case 0: return boat.size;
            case 1:
                forecast.look(0);
                return forecast.openGaps(0);
            case 2: return boat.fastGaps();
            case 3: return boat.day;
            case 4: return rules.size;
            case 5: return reader.size;
            case 6: return boat.rule;
            case 7: return boat.salt;
            case 8: return boat.pump;
            case 9: return boat.allNails();
            default: return BAD;
        }
    }

    // ---- the host

    private static boolean isSheet(int sheet) {
        return sheet >= 0 && sheet < MOST_SHEETS;
    }

    public int sheet(int sheet, int sort, int n) {
        if (!isSheet(sheet) || sort < MISSING || sort > 2) {
            return BAD;
        }
        if (sort == MISSING) {
            sheets[sheet].become(MISSING, 0);
            return 1;
        }
        if (n > SHEET_SIZE) {
            return BAD;
        }
        if (n < 0) {
            return BELOW;
        }
        sheets[sheet].become(sort, n);
        return 1;
    }

    public int cell(int sheet, int i, int v) {
        if (!isSheet(sheet)) {
            return BAD;
        }
        Sheet row = sheets[sheet];
        if (row.sort == MISSING) {
            return NOTHING;
        }
        if (!row.holds(i, 1)) {
            return OUTSIDE;
        }
        row.put(i, v);
        return 1;
    }

    public int copy(int sheet, int i, int other, int j, int n) {
        if (!isSheet(sheet) || !isSheet(other)) {
            return BAD;
        }
        Sheet from = sheets[sheet], to = sheets[other];
        if (from.sort == MISSING || to.sort == MISSING) {
            return NOTHING;
        }
        if (from.sort != to.sort) {
            return UNLIKE;
        }
        if (!from.holds(i, n) || !to.holds(j, n)) {
            return OUTSIDE;
        }
        System.arraycopy(from.items, i, to.items, j, n);
        return n;
    }

    public int planks(int sheet, int sort, int from, int n) {
        if (!isSheet(sheet) || sort < 0 || sort > 2 || n < 0 || n > MOST_PLANKS) {
            return BAD;
        }
        Sheet row = sheets[sheet];
        // a SHEET that is missing is of no sort, so that it can't be of another one
        if (row.sort != MISSING && row.sort != sort) {
            return UNLIKE;
        }
        if (row.sort == MISSING) {
            return NOTHING;
        }
        int came = 0;
        for (int k = 0; k < n; k++) {
            int at = from + 3 * k;
            if (!row.holds(at, 3)) {
                return OUTSIDE;
            }
            if (plank(row.items[at], row.items[at + 1], row.items[at + 2]) >= 0) {
                came++;
            }
        }
        return came;
    }

    public int taken(int plank, int k) {
        if (!Wood.isKind(k)) {
            return BAD;
        }
        if (!boat.hasPlank(plank)) {
            return NOTHING;
        }
        return Wood.isUnder(boat.kind[plank], k) ? boat.number[plank] : UNLIKE;
    }

    /** The KINDS of wood. */
    private static final class Wood {
        static final int PLANK = 0, LARCH = 1, OAK = 2, PAINTED = 3, SOFT = 4, NEW = 5;
        private static final int[] ABOVE = {NONE, PLANK, PLANK, LARCH, PLANK, OAK};

        static boolean isKind(int kind) {
            return kind >= 0 && kind < ABOVE.length;
        }

        static boolean isUnder(int kind, int k) {
            int at = kind;
            for (int i = 0; i < ABOVE.length && isKind(at); i++) {
                if (at == k) {
                    return true;
                }
                at = ABOVE[at];
            }
            return false;
        }

        static int grows(int kind, int width, int wet, int number) {
            int plank = width * wet / 2000;
            switch (kind) {
                case LARCH: case PAINTED: return plank + number / 3;
                case OAK: return plank / 2;
                case SOFT: return Math.max(0, plank - number);
                case NEW: return plank / 2 + 1;
                default: return plank;
            }
        }

        static int takesUp(int kind, int soak, int number) {
            switch (kind) {
                case OAK: case NEW: return soak / 2;
                case PAINTED: return Math.max(0, soak - number);
                case SOFT: return 2 * soak;
                default: return soak;
            }
        }

        static int bears(int kind, int number) {
            int plank = 10 + number;
            switch (kind) {
                case LARCH: case PAINTED: return plank - 5;
                case OAK: return 2 * plank;
                case SOFT: return 0;
                case NEW: return 2 * plank + 5;
                default: return plank;
            }
        }
    }

    /** The boat as she is; also what AN IMAGE keeps of her. */
    private static final class Boat {
        int size;
        int day;
        int salt;
        int pump = 500;
        int rule;
        final int[] kind = new int[MOST_PLANKS];
        final int[] width = new int[MOST_PLANKS];
        final int[] number = new int[MOST_PLANKS];
        final int[] wet = new int[MOST_PLANKS];
        final int[] nailed = new int[MOST_PLANKS];
        final int[] wide = new int[MOST_GAPS];
        final int[] stuffing = new int[MOST_GAPS];
        final int[] fast = new int[MOST_GAPS];

        int gaps() {
            return size > 1 ? size - 1 : 0;
        }

        boolean hasPlank(int plank) {
            return plank >= 0 && plank < size;
        }

        boolean hasGap(int gap) {
            return gap >= 0 && gap < gaps();
        }

        int append(int ofKind, int itsWet, int itsWidth, int itsGap, int itsNumber) {
            if (size >= MOST_PLANKS) {
                return FULL;
            }
            int at = size;
            kind[at] = ofKind;
            wet[at] = itsWet;
            width[at] = itsWidth;
            number[at] = itsNumber;
            if (at > 0) {
                wide[at - 1] = itsGap;
                fast[at - 1] = 1;
            }
            size++;
            return at;
        }

        int bears(int plank) {
            return Wood.bears(kind[plank], number[plank]);
        }

        int bearsAtGap(int gap) {
            return Math.min(bears(gap), bears(gap + 1));
        }

        int fastGaps() {
            int found = 0;
            for (int g = 0; g < gaps(); g++) {
                found += fast[g];
            }
            return found;
        }

        int allNails() {
            int sum = 0;
            for (int i = 0; i < size; i++) {
                sum += nailed[i];
            }
            return sum;
        }

        /** Takes what AN IMAGE keeps, of the first planks and of the gaps between them. */
        void takeFrom(Boat other, int planks) {
            day = other.day;
            salt = other.salt;
            pump = other.pump;
            rule = other.rule;
            System.arraycopy(other.wet, 0, wet, 0, planks);
            System.arraycopy(other.nailed, 0, nailed, 0, planks);
            int between = Math.max(0, planks - 1);
            System.arraycopy(other.wide, 0, wide, 0, between);
            System.arraycopy(other.stuffing, 0, stuffing, 0, between);
            System.arraycopy(other.fast, 0, fast, 0, between);
        }
    }

    /**
     * What is so behind each of the coming days in water; behind day 0 is now.
     * How wet planks grow does not hang on stuffing or on fastenings: so one look serves for
     * every stuffing that is tried, and each gap stands for itself.
     */
    private static final class Forecast {
        private final Boat boat;
        private final Rules rules;
        private final int[] wets = new int[(MOST_DAYS + 1) * MOST_PLANKS];
        private final int[] names = new int[NAMES];
        private final int[] stuffed = new int[MOST_GAPS];
        private final int[] goesOnDay = new int[MOST_GAPS];
        private final int[] widerBy = new int[MOST_GAPS];
        private int days;

        Forecast(Boat boat, Rules rules) {
            this.boat = boat;
            this.rules = rules;
        }

        /** Foresees the next n days (0 .. 60); of the days behind them nothing may be asked. */
        void look(int n) {
            days = n;
            System.arraycopy(boat.wet, 0, wets, 0, boat.size);
            for (int d = 0; d < n; d++) {
                for (int i = 0; i < boat.size; i++) {
                    int wet = wetBehind(d, i) + takesUp(d, i);
                    wets[(d + 1) * MOST_PLANKS + i] = Math.min(MOST_WET, wet);
                }
            }
            for (int g = 0; g < boat.gaps(); g++) {
                stuff(g, boat.stuffing[g]);
            }
        }

        /** Foresees a gap anew, as if it had this stuffing. */
        void stuff(int gap, int stuffing) {
            stuffed[gap] = stuffing;
            goesOnDay[gap] = 0;
            widerBy[gap] = 0;
            if (boat.fast[gap] == 0) {
                return;
            }
            int bears = boat.bearsAtGap(gap);
            for (int d = 1; d <= days; d++) {
                int pressed = -left(d, gap);
                if (pressed > bears) {
                    goesOnDay[gap] = d;
                    widerBy[gap] = pressed / 4;
                    return;
                }
            }
        }

        private boolean isGone(int d, int gap) {
            return goesOnDay[gap] > 0 && goesOnDay[gap] <= d;
        }

        private int wide(int d, int gap) {
            return boat.wide[gap] + (isGone(d, gap) ? widerBy[gap] : 0);
        }

        private int left(int d, int gap) {
            return wide(d, gap) - (grows(d, gap) + grows(d, gap + 1)) / 2 - stuffed[gap];
        }

        int open(int d, int gap) {
            return Math.max(0, left(d, gap));
        }

        int press(int d, int gap) {
            return Math.max(0, -left(d, gap));
        }

        int wetBehind(int d, int plank) {
            return wets[d * MOST_PLANKS + plank];
        }

        int grows(int d, int plank) {
            return Wood.grows(boat.kind[plank], boat.width[plank], wetBehind(d, plank), boat.number[plank]);
        }

        int takesUp(int d, int plank) {
            int soak = Math.max(0, Math.min(100, ruled(SOAK, d, plank)));
            return Wood.takesUp(boat.kind[plank], soak, boat.number[plank]);
        }

        private int dries(int plank) {
            return Math.max(0, Math.min(100, ruled(DRIES, 0, plank)));
        }

        private int leak(int d, int plank) {
            return Math.max(0, Math.min(999, ruled(LEAK, d, plank)));
        }

        private int ruled(int part, int d, int plank) {
            int wet = wetBehind(d, plank);
            names[WET] = wet;
            names[DRY] = 100 - wet;
            names[NEAR] = wetter(d, plank - 1, wet) + wetter(d, plank + 1, wet);
            names[OLD] = boat.number[plank];
            names[DAY] = Math.min(LAST_DAY, boat.day + d);
            names[SALT] = boat.salt;
            return rules.answer(boat.rule, part, names);
        }

        private int wetter(int d, int plank, int wet) {
            return boat.hasPlank(plank) && wetBehind(d, plank) > wet ? 1 : 0;
        }

        int openGaps(int d) {
            int found = 0;
            for (int g = 0; g < boat.gaps(); g++) {
                found += open(d, g) > 0 ? 1 : 0;
            }
            return found;
        }

        int mostOpen() {
            int best = 0;
            for (int g = 1; g < boat.gaps(); g++) {
                if (open(0, g) > open(0, best)) {
                    best = g;
                }
            }
            return best;
        }

        int comesIn(int d) {
            int sum = 10 * boat.allNails();
            for (int g = 0; g < boat.gaps(); g++) {
                int open = open(d, g);
                sum += open > 0 ? open * leak(d, g) : 0;
            }
            return sum;
        }

        int cameIn() {
            int sum = 0;
            for (int d = 1; d <= days; d++) {
                sum += comesIn(d);
            }
            return sum;
        }

        /** How many fastenings go in these days. */
        int gone() {
            int found = 0;
            for (int g = 0; g < boat.gaps(); g++) {
                found += isGone(days, g) ? 1 : 0;
            }
            return found;
        }

        void comeTrue() {
            System.arraycopy(wets, days * MOST_PLANKS, boat.wet, 0, boat.size);
            for (int g = 0; g < boat.gaps(); g++) {
                boat.wide[g] = wide(days, g);
                boat.fast[g] = isGone(days, g) ? 0 : boat.fast[g];
            }
            boat.day = Math.min(LAST_DAY, boat.day + days);
        }

        void dryOneDay() {
            look(0);
            for (int i = 0; i < boat.size; i++) {
                boat.wet[i] = Math.max(0, boat.wet[i] - dries(i));
            }
            boat.day = Math.min(LAST_DAY, boat.day + 1);
        }
    }

    /**
     * What a TEXT is made of, an int for each: a NUMBER is itself, a NAME stands above the NUMBERS,
     * and all else is below 0.
     */
    private static final class Token {
        static final int MOST_NUMBER = 9999, NAME = MOST_NUMBER + 1, LAST_NAME = NAME + NAMES - 1;
        static final int OR = -1, AND = -2, NOT = -3, LESS = -4, EQUAL = -5, PLUS = -6, MINUS = -7;
        static final int TIMES = -8, OPENS = -9, CLOSES = -10, ENDS_PART = -11, TURN = -12;
        static final int KEY_SOAK = -13, KEY_LEAK = -14, KEY_DRIES = -15, WRONG = -16, END = -17;
        private static final int WORDS = 12;

        static boolean isNumberOrName(int token) {
            return token >= 0 && token <= LAST_NAME;
        }

        static int ofSign(int sign) {
            switch (sign) {
                case '(': return OPENS;
                case ')': return CLOSES;
                case ';': return ENDS_PART;
                case '+': return PLUS;
                case '-': return MINUS;
                case '*': return TIMES;
                case '<': return LESS;
                case '=': return EQUAL;
                default: return WRONG;
            }
        }

        static int ofWord(byte[] tape, int from, int to) {
            for (int i = 0; i < WORDS; i++) {
                if (isWord(word(i), tape, from, to)) {
                    return tokenOfWord(i);
                }
            }
            return WRONG;
        }

        private static boolean isWord(String word, byte[] tape, int from, int to) {
            if (to - from != word.length()) {
                return false;
            }
            for (int i = 0; i < word.length(); i++) {
                if (tape[from + i] != word.charAt(i)) {
                    return false;
                }
            }
            return true;
        }

        private static String word(int i) {
            switch (i) {
                case WET: return "wet";
                case DRY: return "dry";
                case NEAR: return "near";
                case OLD: return "old";
                case DAY: return "day";
                case SALT: return "salt";
                case 6: return "soak";
                case 7: return "leak";
                case 8: return "dries";
                case 9: return "or";
                case 10: return "and";
                default: return "not";
            }
        }

        private static int tokenOfWord(int i) {
            switch (i) {
                case 6: return KEY_SOAK;
                case 7: return KEY_LEAK;
                case 8: return KEY_DRIES;
                case 9: return OR;
                case 10: return AND;
                case 11: return NOT;
                default: return NAME + i;
            }
        }
    }

    /**
     * Reads THE TAPE: first into tokens, then, by the grammar, into steps: a row of tokens in which
     * each operation stands behind what it works on. A token that can't stand is never passed,
     * so that the token at which reading ends is the FAULT.
     */
    private static final class Reader {
        private static final int MOST_OPEN = 5;
        private final byte[] tape = new byte[TAPE_SIZE];
        int size;
        private final int[] tokens = new int[TAPE_SIZE + 1];
        private final int[] places = new int[TAPE_SIZE + 1];
        private int tokenCount;
        private int at;
        final int[] steps = new int[TAPE_SIZE];
        int stepCount;
        final int[] partEnds = new int[PARTS];

        void append(byte b) {
            if (size < TAPE_SIZE) {
                tape[size] = b;
                size++;
            }
        }

        /** The place of the FAULT, or NONE. */
        int read() {
            split();
            at = 0;
            stepCount = 0;
            boolean whole = part(Token.KEY_SOAK, SOAK) && part(Token.KEY_LEAK, LEAK)
                && part(Token.KEY_DRIES, DRIES) && token() == Token.END;
            return whole || at >= tokenCount ? NONE : places[at];
        }

        private void split() {
            tokenCount = 0;
            int place = 0;
            for (int i = 0; i < TAPE_SIZE && place < size; i++) {
                int b = tape[place];
                if (b == 32 || b == 10) {
                    place++;
                } else if (isDigit(b)) {
                    int end = endOfNumber(place);
                    addToken(end - place > 4 ? Token.WRONG : number(place, end), place);
                    place = end;
                } else if (isLetter(b)) {
                    int end = endOfWord(place);
                    addToken(Token.ofWord(tape, place, end), place);
                    place = end;
                } else {
                    addToken(Token.ofSign(b), place);
                    place++;
                }
            }
            addToken(Token.END, size);
        }

        private void addToken(int token, int place) {
            if (tokenCount < tokens.length) {
                tokens[tokenCount] = token;
                places[tokenCount] = place;
                tokenCount++;
            }
        }

        private static boolean isDigit(int b) {
            return b >= '0' && b <= '9';
        }

        private static boolean isLetter(int b) {
            return b >= 'a' && b <= 'z';
        }

        private int endOfNumber(int from) {
            int end = from;
            while (end < size && isDigit(tape[end])) {
                end++;
            }
            return end;
        }

        private int endOfWord(int from) {
            int end = from;
            while (end < size && isLetter(tape[end])) {
                end++;
            }
            return end;
        }

        private int number(int from, int to) {
            int value = 0;
            for (int i = from; i < to; i++) {
                value = value * 10 + tape[i] - '0';
            }
            return value;
        }

        private int token() {
            return at < tokenCount ? tokens[at] : Token.END;
        }

        private boolean pass(int token) {
            if (token() != token) {
                return false;
            }
            at++;
            return true;
        }

        /** Writes a step down; true, so that it can stand in a row of what must be so. */
        private boolean write(int step) {
            if (stepCount < steps.length) {
                steps[stepCount] = step;
                stepCount++;
            }
            return true;
        }

        private boolean part(int key, int part) {
            if (!pass(key) || !either(0)) {
                return false;
            }
            partEnds[part] = stepCount;
            return pass(Token.ENDS_PART);
        }

        private boolean either(int open) {
            boolean stands = both(open);
            for (int i = 0; i < TAPE_SIZE && stands && pass(Token.OR); i++) {
                stands = both(open) && write(Token.OR);
            }
            return stands;
        }

        private boolean both(int open) {
            boolean stands = unless(open);
            for (int i = 0; i < TAPE_SIZE && stands && pass(Token.AND); i++) {
                stands = unless(open) && write(Token.AND);
            }
            return stands;
        }

        private boolean unless(int open) {
            if (token() == Token.NOT) {
                return open < MOST_OPEN && pass(Token.NOT) && unless(open + 1) && write(Token.NOT);
            }
            if (!sum(open)) {
                return false;
            }
            int sign = token();
            if (sign != Token.LESS && sign != Token.EQUAL) {
                return true;
            }
            return pass(sign) && sum(open) && write(sign);
        }

        private boolean sum(int open) {
            boolean stands = term(open);
            int sign = token();
            for (int i = 0; i < TAPE_SIZE && stands && (sign == Token.PLUS || sign == Token.MINUS); i++) {
                stands = pass(sign) && term(open) && write(sign);
                sign = token();
            }
            return stands;
        }

        private boolean term(int open) {
            boolean stands = one(open);
            for (int i = 0; i < TAPE_SIZE && stands && pass(Token.TIMES); i++) {
                stands = one(open) && write(Token.TIMES);
            }
            return stands;
        }

        private boolean one(int open) {
            int token = token();
            if (Token.isNumberOrName(token)) {
                return pass(token) && write(token);
            }
            if (open >= MOST_OPEN) {
                return false;
            }
            if (token == Token.MINUS) {
                return pass(token) && one(open + 1) && write(Token.TURN);
            }
            return pass(Token.OPENS) && either(open + 1) && pass(Token.CLOSES);
        }
    }

    /** A TEXT as it was read. */
    private static final class Steps {
        final int[] row;
        final int[] partEnds = new int[PARTS];

        Steps(Reader reader) {
            row = new int[reader.stepCount];
            System.arraycopy(reader.steps, 0, row, 0, row.length);
            System.arraycopy(reader.partEnds, 0, partEnds, 0, PARTS);
        }
    }

    /** The TEXTS, and what they answer. */
    private static final class Rules {
        private final Steps[] texts = new Steps[MOST_TEXTS];
        int size;
        // each value that waits belongs to a token of its own, so no TEXT needs more room
        private final int[] waiting = new int[TAPE_SIZE];
        private int waits;

        int keep(Reader reader) {
            if (size >= MOST_TEXTS) {
                return FULL;
            }
            texts[size] = new Steps(reader);
            size++;
            return size - 1;
        }

        int answer(int text, int part, int[] names) {
            Steps steps = text >= 0 && text < size ? texts[text] : null;
            if (steps == null) {
                return 0;
            }
            waits = 0;
            for (int i = part == 0 ? 0 : steps.partEnds[part - 1]; i < steps.partEnds[part]; i++) {
                int step = steps.row[i];
                if (step >= 0) {
                    push(step < Token.NAME ? step : names[step - Token.NAME]);
                } else if (step == Token.TURN) {
                    push(-pop());
                } else if (step == Token.NOT) {
                    push(pop() == 0 ? 1 : 0);
                } else {
                    int right = pop(), left = pop();
                    push(joined(step, left, right));
                }
            }
            return waits == 1 ? waiting[0] : 0;
        }

        private void push(int v) {
            if (waits < waiting.length) {
                waiting[waits] = v;
                waits++;
            }
        }

        private int pop() {
            if (waits < 1) {
                return 0;
            }
            waits--;
            return waiting[waits];
        }

        private static int joined(int step, int left, int right) {
            switch (step) {
                case Token.OR: return left != 0 || right != 0 ? 1 : 0;
                case Token.AND: return left != 0 && right != 0 ? 1 : 0;
                case Token.LESS: return left < right ? 1 : 0;
                case Token.EQUAL: return left == right ? 1 : 0;
                case Token.PLUS: return left + right;
                case Token.MINUS: return left - right;
                default: return left * right;
            }
        }
    }

    /** A row of numbers of a sort, or missing. */
    private static final class Sheet {
        int sort = MISSING;
        private int size;
        final int[] items = new int[SHEET_SIZE];

        void become(int itsSort, int n) {
            sort = itsSort;
            size = n;
            for (int i = 0; i < SHEET_SIZE; i++) {
                items[i] = 0;
            }
        }

        boolean holds(int from, int n) {
            return n >= 0 && from >= 0 && from <= size && n <= size - from;
        }

        void put(int i, int v) {
            items[i] = sort == 0 ? (byte) v : sort == 1 ? (short) v : v;
        }
    }
}
