import java.util.ArrayList;
import java.util.List;

/**
 * The document once more, told in another way than in DriedOut: every RUN is a copy of the whole boat
 * that lives through its days one by one, kinds of wood are classes, TEXTS are worked out as they are read.
 */
final class Model {
    static final int NONE = -1, BAD = -2, STATE = -3, FULL = -4;
    static final long NO = -4611686018427387904L;

    static class Plank {
        int kind, width, wet, number, nails;

        Plank copy() {
            Plank p = make(kind);
            p.kind = kind;
            p.width = width;
            p.wet = wet;
            p.number = number;
            p.nails = nails;
            return p;
        }

        static Plank make(int kind) {
            Plank p = switch (kind) {
                case 0 -> new Plank();
                case 1 -> new Larch();
                case 2 -> new Oak();
                case 3 -> new Painted();
                case 4 -> new Soft();
                default -> new NewOak();
            };
            p.kind = kind;
            return p;
        }

        int grows() { return width * wet / 2000; }
        int takesUp(int soak) { return soak; }
        int bears() { return 10 + number; }
    }

    static class Larch extends Plank {
        @Override int grows() { return super.grows() + number / 3; }
        @Override int bears() { return super.bears() - 5; }
    }

    static class Oak extends Plank {
        @Override int grows() { return super.grows() / 2; }
        @Override int takesUp(int soak) { return super.takesUp(soak) / 2; }
        @Override int bears() { return 2 * super.bears(); }
    }

    static final class Painted extends Larch {
        @Override int takesUp(int soak) { return super.takesUp(soak) - number; }
    }

    static final class Soft extends Plank {
        @Override int grows() { return super.grows() - number; }
        @Override int takesUp(int soak) { return 2 * super.takesUp(soak); }
        @Override int bears() { return 0; }
    }

    static final class NewOak extends Oak {
        @Override int grows() { return super.grows() + 1; }
        @Override int bears() { return super.bears() + 5; }
    }

    static final class Gap {
        int wide, stuffing;
        boolean fast = true;

        Gap copy() {
            Gap g = new Gap();
            g.wide = wide;
            g.stuffing = stuffing;
            g.fast = fast;
            return g;
        }
    }

    static final class Boat {
        final List<Plank> planks = new ArrayList<>();
        final List<Gap> gaps = new ArrayList<>();
        int day, salt, pump = 500;
        String rule = "soak 2 + near * 3 + ( 50 < dry ) * 4 ; leak 2 + salt ; dries 1 + ( 50 < wet ) * 2 ;";
        int ruleNumber;

        Boat copy() {
            Boat b = new Boat();
            for (Plank p : planks) b.planks.add(p.copy());
            for (Gap g : gaps) b.gaps.add(g.copy());
            b.day = day;
            b.salt = salt;
            b.pump = pump;
            b.rule = rule;
            b.ruleNumber = ruleNumber;
            return b;
        }

        int asked(int part, int i) {
            int wet = planks.get(i).wet, near = 0;
            if (i > 0 && planks.get(i - 1).wet > wet) near++;
            if (i + 1 < planks.size() && planks.get(i + 1).wet > wet) near++;
            int[] names = {wet, 100 - wet, near, planks.get(i).number, day, salt};
            int value = new ModelText(rule, names).values[part];
            int bound = part == 1 ? 999 : 100;
            return value < 0 ? 0 : value > bound ? bound : value;
        }

        int grows(int i) { return Math.max(0, planks.get(i).grows()); }
        int takesUp(int i) { return Math.max(0, planks.get(i).takesUp(asked(0, i))); }
        int bears(int i) { return Math.max(0, planks.get(i).bears()); }
        int left(int g) { return gaps.get(g).wide - (grows(g) + grows(g + 1)) / 2 - gaps.get(g).stuffing; }
        int open(int g) { return Math.max(0, left(g)); }
        int press(int g) { return Math.max(0, 0 - left(g)); }

        int nails() {
            int sum = 0;
            for (Plank p : planks) sum += p.nails;
            return sum;
        }

        int comes() {
            int sum = 10 * nails();
            for (int g = 0; g < gaps.size(); g++) sum += open(g) * asked(1, g);
            return sum;
        }

        int dayInWater() {
            int[] wet = new int[planks.size()];
            for (int i = 0; i < wet.length; i++) wet[i] = Math.min(100, planks.get(i).wet + takesUp(i));
            for (int i = 0; i < wet.length; i++) planks.get(i).wet = wet[i];
            int went = 0;
            for (int g = 0; g < gaps.size(); g++) {
                int press = press(g);
                if (gaps.get(g).fast && press > Math.min(bears(g), bears(g + 1))) {
                    gaps.get(g).fast = false;
                    gaps.get(g).wide += press / 4;
                    went++;
                }
            }
            day = Math.min(9999, day + 1);
            return went;
        }

        int days(int n) {
            int went = 0;
            for (int d = 0; d < n; d++) went += dayInWater();
            return went;
        }

        void dayInAir() {
            int[] wet = new int[planks.size()];
            for (int i = 0; i < wet.length; i++) wet[i] = Math.max(0, planks.get(i).wet - asked(2, i));
            for (int i = 0; i < wet.length; i++) planks.get(i).wet = wet[i];
            day = Math.min(9999, day + 1);
        }

        boolean isTight() {
            for (int g = 0; g < gaps.size(); g++) if (open(g) > 0) return false;
            return true;
        }
    }

    Boat boat = new Boat();
    Boat image;
    final List<String> texts = new ArrayList<>(List.of(boat.rule));
    String tape = "";
    final Object[] sheets = new Object[4];

    int plank(int kind, int what, int more) {
        if (kind < 0 || kind > 5 || what < 0 || what > 100300 || more < 0 || more > 2009) return BAD;
        if (what % 1000 < 10 || what % 1000 > 300) return BAD;
        if (boat.planks.size() == 10) return FULL;
        Plank p = Plank.make(kind);
        p.wet = what / 1000;
        p.width = what % 1000;
        p.number = more % 10;
        boat.planks.add(p);
        if (boat.planks.size() > 1) {
            Gap g = new Gap();
            g.wide = more / 10;
            boat.gaps.add(g);
        }
        return boat.planks.size() - 1;
    }

    private boolean isPlank(int i) { return 0 <= i && i < boat.planks.size(); }
    private boolean isGap(int i) { return 0 <= i && i < boat.gaps.size(); }

    int set(int what, int of, int v) {
        int[] bounds = {100, 99, 200, 100, 1, 9, 9999};
        if (what < 0 || what > 6 || v < 0 || v > bounds[what]) return BAD;
        if (what < 2 && !isPlank(of) || what >= 2 && what < 5 && !isGap(of)) return BAD;
        int was = 0;
        if (what == 0) { was = boat.planks.get(of).wet; boat.planks.get(of).wet = v; }
        if (what == 1) { was = boat.planks.get(of).nails; boat.planks.get(of).nails = v; }
        if (what == 2) { was = boat.gaps.get(of).wide; boat.gaps.get(of).wide = v; }
        if (what == 3) { was = boat.gaps.get(of).stuffing; boat.gaps.get(of).stuffing = v; }
        if (what == 4) { was = boat.gaps.get(of).fast ? 1 : 0; boat.gaps.get(of).fast = v == 1; }
        if (what == 5) { was = boat.salt; boat.salt = v; }
        if (what == 6) { was = boat.pump; boat.pump = v; }
        return was;
    }

    int told(int i, int what) {
        if (!isPlank(i) || what < 0 || what > 7) return BAD;
        Plank p = boat.planks.get(i);
        return new int[] {p.kind, p.width, p.wet, boat.grows(i), boat.takesUp(i), boat.bears(i), p.nails, p.number}[what];
    }

    int gap(int g, int what) {
        if (!isGap(g) || what < 0 || what > 4) return BAD;
        Gap gap = boat.gaps.get(g);
        return new int[] {gap.wide, gap.stuffing, gap.fast ? 1 : 0, boat.open(g), boat.press(g)}[what];
    }

    int feed(int n, long bytes) {
        if (n < 1 || n > 8) return BAD;
        if (tape.length() + n > 160) return FULL;
        for (int i = 0; i < n; i++) {
            tape += (char) (bytes & 255);
            bytes >>= 8;
        }
        return tape.length();
    }

    int text() {
        if (texts.size() == 6) return FULL;
        ModelText text = new ModelText(tape, new int[6]);
        String was = tape;
        tape = "";
        if (text.fault >= 0) return -100 - text.fault;
        texts.add(was);
        return texts.size() - 1;
    }

    int force(int text) {
        if (text < 0 || text >= texts.size()) return BAD;
        int was = boat.ruleNumber;
        boat.ruleNumber = text;
        boat.rule = texts.get(text);
        return was;
    }

    int comes() { return boat.comes(); }

    long run(int n, int of, int what) {
        if (n < 1 || n > 60 || what < 0 || what > 4) return NO;
        if (what < 2 && !isGap(of) || what == 2 && !isPlank(of)) return NO;
        Boat b = boat.copy();
        int went = 0, came = 0;
        for (int d = 0; d < n; d++) {
            went += b.dayInWater();
            if (what == 4) came += b.comes();
        }
        if (what == 0) return b.open(of);
        if (what == 1) return b.press(of);
        if (what == 2) return b.planks.get(of).wet;
        return what == 3 ? went : came;
    }

    int lay(int n) { return n < 1 || n > 60 ? BAD : boat.days(n); }

    int air(int n) {
        if (n < 1 || n > 60) return BAD;
        for (int d = 0; d < n; d++) boat.dayInAir();
        return boat.day;
    }

    int tight() {
        Boat b = boat.copy();
        for (int d = 0; d <= 60; d++) {
            if (b.isTight()) return d;
            b.dayInWater();
        }
        return NONE;
    }

    int out() {
        Boat b = boat.copy();
        for (int d = 0; d <= 60; d++) {
            if (b.comes() <= b.pump) return d;
            b.dayInWater();
        }
        return NONE;
    }

    private Boat stuffed(int g, int v) {
        Boat b = boat.copy();
        b.gaps.get(g).stuffing = Math.min(100, b.gaps.get(g).stuffing + v);
        return b;
    }

    long sack(int v) {
        if (v < 0 || v > 100 || boat.gaps.isEmpty()) return NO;
        int best = 0;
        for (int g = boat.gaps.size() - 1; g >= 0; g--) if (boat.open(g) >= boat.open(best)) best = g;
        return boat.comes() - stuffed(best, v).comes();
    }

    int first(int v) {
        if (v < 1 || v > 100) return BAD;
        long least = Long.MAX_VALUE;
        int best = NONE;
        for (int g = 0; g < boat.gaps.size(); g++) {
            Boat b = stuffed(g, v);
            long rank = b.days(60) * 100000000L + b.comes();
            if (rank < least) {
                least = rank;
                best = g;
            }
        }
        return best;
    }

    int most(int g) {
        if (!isGap(g)) return BAD;
        Boat b = boat.copy();
        b.gaps.get(g).stuffing = 0;
        int without = b.days(60), best = 0;
        for (int s = 0; s <= 100; s += s < 100 ? 1 : 2) {
            b = boat.copy();
            b.gaps.get(g).stuffing = s;
            if (b.days(60) <= without) best = s;
        }
        return best;
    }

    int far(int hold) {
        if (hold < 0 || hold > 9999) return BAD;
        int c = boat.comes(), anHour = c / 24 + (c % 24 > 0 ? 1 : 0);
        return anHour == 0 ? 999 : Math.min(999, hold / anHour);
    }

    long nails(int part) {
        if (part < 0 || part > 1) return NO;
        int above = 10 * boat.nails(), below = boat.comes();
        if (below == 0) {
            above = 0;
            below = 1;
        }
        int divisor = java.math.BigInteger.valueOf(above).gcd(java.math.BigInteger.valueOf(below)).intValue();
        return part == 0 ? above / divisor : below / divisor;
    }

    int image() {
        image = boat.copy();
        return boat.day;
    }

    int back() {
        if (image == null) return STATE;
        for (int i = 0; i < image.planks.size(); i++) {
            boat.planks.get(i).wet = image.planks.get(i).wet;
            boat.planks.get(i).nails = image.planks.get(i).nails;
        }
        for (int g = 0; g < image.gaps.size(); g++) boat.gaps.set(g, image.gaps.get(g).copy());
        boat.day = image.day;
        boat.salt = image.salt;
        boat.pump = image.pump;
        boat.rule = image.rule;
        boat.ruleNumber = image.ruleNumber;
        return boat.day;
    }

    int count(int what) {
        if (what < 0 || what > 9) return BAD;
        int open = 0, fast = 0;
        for (int g = 0; g < boat.gaps.size(); g++) {
            open += boat.open(g) > 0 ? 1 : 0;
            fast += boat.gaps.get(g).fast ? 1 : 0;
        }
        return new int[] {boat.planks.size(), open, fast, boat.day, texts.size(), tape.length(),
            boat.ruleNumber, boat.salt, boat.pump, boat.nails()}[what];
    }

    private static boolean isSheet(int sheet) { return sheet >= 0 && sheet < 4; }

    int sheet(int sheet, int sort, int n) {
        if (!isSheet(sheet) || sort < -1 || sort > 2 || sort >= 0 && n > 40) return BAD;
        if (sort >= 0 && n < 0) return -14;
        sheets[sheet] = sort == -1 ? null : sort == 0 ? new byte[n] : sort == 1 ? new short[n] : (Object) new int[n];
        return 1;
    }

    private static int sort(Object row) { return row instanceof byte[] ? 0 : row instanceof short[] ? 1 : 2; }

    private static int size(Object row) { return java.lang.reflect.Array.getLength(row); }

    int cell(int sheet, int i, int v) {
        if (!isSheet(sheet)) return BAD;
        Object row = sheets[sheet];
        if (row == null) return -11;
        if (i < 0 || i >= size(row)) return -12;
        if (row instanceof byte[] b) b[i] = (byte) v;
        if (row instanceof short[] s) s[i] = (short) v;
        if (row instanceof int[] w) w[i] = v;
        return 1;
    }

    int copy(int sheet, int i, int other, int j, int n) {
        if (!isSheet(sheet) || !isSheet(other)) return BAD;
        Object from = sheets[sheet], to = sheets[other];
        if (from == null || to == null) return -11;
        if (sort(from) != sort(to)) return -13;
        if (n < 0 || i < 0 || j < 0 || (long) i + n > size(from) || (long) j + n > size(to)) return -12;
        System.arraycopy(from, i, to, j, n);
        return n;
    }

    int planks(int sheet, int sort, int from, int n) {
        if (!isSheet(sheet) || sort < 0 || sort > 2 || n < 0 || n > 10) return BAD;
        Object row = sheets[sheet];
        if (row != null && sort(row) != sort) return -13;
        if (row == null) return -11;
        int came = 0;
        for (long at = from; at < from + 3L * n; at += 3) {
            if (at < 0 || at + 2 >= size(row)) return -12;
            int[] three = new int[3];
            for (int k = 0; k < 3; k++) three[k] = java.lang.reflect.Array.getInt(row, (int) at + k);
            if (plank(three[0], three[1], three[2]) >= 0) came++;
        }
        return came;
    }

    int taken(int i, int k) {
        if (k < 0 || k > 5) return BAD;
        if (!isPlank(i)) return -11;
        Class<?> of = Plank.make(k).getClass();
        return of.isInstance(boat.planks.get(i)) ? boat.planks.get(i).number : -13;
    }
}
