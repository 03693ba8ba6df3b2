import java.util.ArrayList;
import java.util.List;
import java.util.function.Supplier;
import java.util.function.ToLongFunction;

/**
 * "Refusals, the first that the call's words name; they change nothing". Each call that is refused is made on an
 * object of its own, and all that can be asked of it then must be as in a twin on which it was not made.
 */
public final class RefusalTest {
    private static final Sentences S = new Sentences();
    private static final int NONE = -1, BAD = -2, STATE = -3, FULL = -4, NOTHING = -11, OUTSIDE = -12, UNLIKE = -13, BELOW = -14;
    private static final long NO = -4611686018427387904L;
    private static final int MIN = Integer.MIN_VALUE, MAX = Integer.MAX_VALUE;

    private record Refused(String call, ToLongFunction<DriedOut> it, long want) { }

    private static final List<Refused> CALLS = new ArrayList<>();

    public static void main(String[] args) {
        S.of("a look at an object tells it from others", RefusalTest::looksDiffer);
        S.of("Refusals .. change nothing: of an object with room", RefusalTest::withRoom);
        S.of("Refusals .. change nothing: of an object without room", RefusalTest::withoutRoom);
        S.of("Refusals .. change nothing: of a new object", RefusalTest::ofNew);
        S.end();
    }

    private static void refused(String call, ToLongFunction<DriedOut> it, long want) {
        CALLS.add(new Refused(call, it, want));
    }

    private static void all(Supplier<DriedOut> make) {
        List<Long> twin = look(make.get());
        for (Refused r : CALLS) {
            DriedOut x = make.get();
            S.due(r.call, r.it.applyAsLong(x), r.want);
            List<Long> looked = look(x);
            S.due(r.call + ", and how many answers then", looked.size(), twin.size());
            for (int i = 0; i < twin.size() && i < looked.size(); i++) {
                S.due(r.call + ", and answer " + i + " of a look then", looked.get(i), twin.get(i));
            }
        }
        CALLS.clear();
    }

    /** Three PLANKS, three TEXTS, a TAPE that lacks a sign, AN IMAGE of another state, three SHEETS. */
    private static DriedOut laden() {
        DriedOut x = new DriedOut();
        x.plank(0, 20200, 0);
        x.plank(1, 30210, 54);
        x.plank(3, 40220, 25);
        x.image();
        Boats.rule(x, "soak 3;leak 2+day;dries 4;");
        Boats.text(x, "soak 7;leak 8+salt;dries 9;");
        Boats.feed(x, "soak 5;leak 6;dries 7");
        x.set(1, 1, 4);
        x.set(3, 0, 2);
        x.set(4, 1, 0);
        x.set(5, 0, 3);
        x.set(6, 0, 7);
        x.air(5);
        int[] items = {1, 20, 3, 4, 50, 16, 7};
        for (int sheet = 0; sheet < 3; sheet++) {
            x.sheet(sheet, sheet, items.length);
            for (int i = 0; i < items.length; i++) x.cell(sheet, i, items[i] + (i % 3 == 1 ? sheet : 0));
        }
        return x;
    }

    /** Ten PLANKS, six TEXTS, 160 bytes on THE TAPE; THE RULE is the last TEXT. */
    private static DriedOut full() {
        DriedOut x = new DriedOut();
        for (int i = 0; i < 10; i++) x.plank(i % 6, 5000 * i + 100 + i, 10 * i + i);
        for (int i = 1; i < 6; i++) Boats.text(x, "soak " + i + ";leak " + i + ";dries " + i + ";");
        x.force(5);
        Boats.feed(x, "soak 1;" + " ".repeat(153));
        return x;
    }

    private static List<Long> look(DriedOut x) {
        List<Long> seen = new ArrayList<>();
        lookAsNow(x, seen);
        lookAhead(x, seen);
        // these change it, in the same way each time: what SHEETS, TEXTS, THE TAPE and THE IMAGE hold
        for (int sheet = 0; sheet < 4; sheet++) {
            seen.add((long) x.cell(sheet, 6, 7));
            for (int sort = 0; sort < 3; sort++) seen.add((long) x.planks(sheet, sort, 0, 2));
        }
        for (int text = 0; text < x.count(4); text++) {
            seen.add((long) x.force(text));
            seen.add((long) x.told(0, 4));
            seen.add((long) x.comes());
        }
        Boats.feed(x, ";");
        seen.add((long) x.text());
        lookAsNow(x, seen);
        seen.add((long) x.back());
        lookAsNow(x, seen);
        return seen;
    }

    private static void lookAsNow(DriedOut x, List<Long> seen) {
        for (int what = 0; what < 10; what++) seen.add((long) x.count(what));
        for (int i = 0; i < x.count(0); i++) {
            for (int what : new int[] {0, 1, 2, 6, 7}) seen.add((long) x.told(i, what));
        }
        for (int g = 0; g < x.count(0) - 1; g++) {
            for (int what = 0; what < 3; what++) seen.add((long) x.gap(g, what));
        }
    }

    private static void lookAhead(DriedOut x, List<Long> seen) {
        seen.add((long) x.comes());
        for (int n : new int[] {1, 60}) {
            for (int what = 0; what < 5; what++) seen.add(x.run(n, 0, what));
        }
        seen.add((long) x.tight());
        seen.add((long) x.out());
        seen.add(x.sack(5));
        seen.add((long) x.first(5));
        seen.add((long) x.most(0));
        seen.add((long) x.far(100));
        seen.add(x.nails(0));
        seen.add(x.nails(1));
        for (int k = 0; k < 6; k++) seen.add((long) x.taken(1, k));
    }

    /** If a look didn't see these changes, it wouldn't see those of a refused call. */
    private static void looksDiffer() {
        List<Long> twin = look(laden());
        List<ToLongFunction<DriedOut>> changes = List.of(x -> x.plank(0, 10, 0), x -> x.set(0, 2, 99), x -> x.set(1, 0, 1),
            x -> x.set(2, 1, 9), x -> x.set(3, 1, 1), x -> x.set(4, 1, 1), x -> x.set(5, 0, 4), x -> x.set(6, 0, 8),
            x -> x.feed(1, 32), x -> x.text(), x -> x.force(0), x -> x.lay(1), x -> x.air(1), x -> x.image(), x -> x.back(),
            x -> x.sheet(0, 0, 6), x -> x.sheet(1, 1, 7), x -> x.sheet(3, 2, 7), x -> x.sheet(2, -1, 0), x -> x.cell(0, 0, 2),
            x -> x.cell(1, 1, 99), x -> x.cell(2, 5, 17), x -> x.copy(1, 0, 1, 3, 1), x -> x.planks(0, 0, 0, 1));
        for (int i = 0; i < changes.size(); i++) {
            DriedOut x = laden();
            changes.get(i).applyAsLong(x);
            S.due("change " + i + " is seen", look(x).equals(twin) ? 0 : 1, 1);
        }
    }

    private static void withRoom() {
        refusedPlanksAndGaps();
        refusedTexts();
        refusedDays();
        refusedStuffing();
        refusedSheets();
        refusedCopies();
        refusedPlanksBySheet();
        all(RefusalTest::laden);
    }

    private static void refusedPlanksAndGaps() {
        int[][] planks = {{-1, 10, 0}, {6, 10, 0}, {0, 9, 0}, {0, 301, 0}, {0, 101010, 0}, {0, -990, 0}, {0, 10, 2010}, {0, 10, -1}, {MAX, MAX, MAX}, {MIN, MIN, MIN}};
        for (int[] p : planks) refused("plank(" + p[0] + ", " + p[1] + ", " + p[2] + ")", x -> x.plank(p[0], p[1], p[2]), BAD);
        int[] most = {100, 99, 200, 100, 1, 9, 9999}, size = {3, 3, 2, 2, 2};
        for (int what = 0; what < 7; what++) {
            int w = what, m = most[what];
            for (int v : new int[] {m + 1, -1, MIN, MAX}) refused("set(" + w + ", 0, " + v + ")", x -> x.set(w, 0, v), BAD);
            if (what > 4) continue;
            for (int of : new int[] {size[what], -1, MIN, MAX}) refused("set(" + w + ", " + of + ", 1)", x -> x.set(w, of, 1), BAD);
        }
        for (int what : new int[] {-1, 7, MIN, MAX}) refused("set(" + what + ", 0, 1)", x -> x.set(what, 0, 1), BAD);
        for (int what : new int[] {-1, 8, MIN, MAX}) refused("told(0, " + what + ")", x -> x.told(0, what), BAD);
        for (int i : new int[] {-1, 3, MIN, MAX}) refused("told(" + i + ", 0)", x -> x.told(i, 0), BAD);
        for (int what : new int[] {-1, 5, MIN, MAX}) refused("gap(0, " + what + ")", x -> x.gap(0, what), BAD);
        for (int g : new int[] {-1, 2, MIN, MAX}) refused("gap(" + g + ", 0)", x -> x.gap(g, 0), BAD);
    }

    private static void refusedTexts() {
        for (int n : new int[] {0, 9, -1, MIN, MAX}) refused("feed(" + n + ", 32)", x -> x.feed(n, 32), BAD);
        for (int text : new int[] {3, -1, 6, MIN, MAX}) refused("force(" + text + ")", x -> x.force(text), BAD);
    }

    private static void refusedDays() {
        for (int n : new int[] {0, 61, -1, MIN, MAX}) {
            refused("lay(" + n + ")", x -> x.lay(n), BAD);
            refused("air(" + n + ")", x -> x.air(n), BAD);
            for (int what = 0; what < 5; what++) {
                int w = what;
                refused("run(" + n + ", 0, " + what + ")", x -> x.run(n, 0, w), NO);
            }
        }
        for (int of : new int[] {2, -1, MIN, MAX}) {
            refused("run(9, " + of + ", 0)", x -> x.run(9, of, 0), NO);
            refused("run(9, " + of + ", 1)", x -> x.run(9, of, 1), NO);
        }
        for (int of : new int[] {3, -1, MIN, MAX}) refused("run(9, " + of + ", 2)", x -> x.run(9, of, 2), NO);
        for (int what : new int[] {-1, 5, MIN, MAX}) refused("run(9, 0, " + what + ")", x -> x.run(9, 0, what), NO);
    }

    private static void refusedStuffing() {
        for (int v : new int[] {-1, 101, MIN, MAX}) refused("sack(" + v + ")", x -> x.sack(v), NO);
        for (int v : new int[] {0, 101, -1, MIN, MAX}) refused("first(" + v + ")", x -> x.first(v), BAD);
        for (int g : new int[] {-1, 2, MIN, MAX}) refused("most(" + g + ")", x -> x.most(g), BAD);
        for (int hold : new int[] {-1, 10000, MIN, MAX}) refused("far(" + hold + ")", x -> x.far(hold), BAD);
        for (int part : new int[] {-1, 2, MIN, MAX}) refused("nails(" + part + ")", x -> x.nails(part), NO);
        for (int what : new int[] {-1, 10, MIN, MAX}) refused("count(" + what + ")", x -> x.count(what), BAD);
    }

    private static void refusedSheets() {
        int[][] calls = {{-1, 0, 1, BAD}, {4, 0, 1, BAD}, {MIN, 0, 1, BAD}, {MAX, 0, 1, BAD}, {4, 0, -1, BAD}, {4, -1, 0, BAD}, {4, 9, 99, BAD},
            {0, -2, 1, BAD}, {0, 3, 1, BAD}, {0, MIN, 1, BAD}, {0, MAX, 1, BAD}, {0, 3, -1, BAD}, {0, -2, -1, BAD}, {3, 3, 1, BAD},
            {0, 0, 41, BAD}, {1, 1, 41, BAD}, {2, 2, 41, BAD}, {3, 0, 41, BAD}, {2, 2, MAX, BAD},
            {0, 0, -1, BELOW}, {1, 1, -1, BELOW}, {2, 2, -1, BELOW}, {3, 0, -1, BELOW}, {2, 2, MIN, BELOW}};
        for (int[] c : calls) refused("sheet(" + c[0] + ", " + c[1] + ", " + c[2] + ")", x -> x.sheet(c[0], c[1], c[2]), c[3]);
        int[][] cells = {{-1, 0, BAD}, {4, 0, BAD}, {MIN, 0, BAD}, {MAX, 0, BAD}, {4, -1, BAD}, {3, 0, NOTHING}, {3, -1, NOTHING}, {3, MAX, NOTHING},
            {0, -1, OUTSIDE}, {0, 7, OUTSIDE}, {0, MIN, OUTSIDE}, {0, MAX, OUTSIDE}, {1, 7, OUTSIDE}, {2, 7, OUTSIDE}, {2, 39, OUTSIDE}};
        for (int[] c : cells) refused("cell(" + c[0] + ", " + c[1] + ", 9)", x -> x.cell(c[0], c[1], 9), c[2]);
    }

    private static void refusedCopies() {
        int[][] calls = {{-1, 0, 0, 0, 1, BAD}, {4, 0, 0, 0, 1, BAD}, {0, 0, -1, 0, 1, BAD}, {0, 0, 4, 0, 1, BAD}, {3, 0, 4, 0, 1, BAD}, {4, 0, 3, 0, 1, BAD},
            {0, -1, 4, -1, -1, BAD}, {3, 0, 0, 0, 1, NOTHING}, {0, 0, 3, 0, 1, NOTHING}, {3, 0, 3, 0, 0, NOTHING}, {3, -1, 0, 9, -1, NOTHING},
            {0, 0, 1, 0, 1, UNLIKE}, {2, 0, 1, 0, 3, UNLIKE}, {1, 0, 0, 0, 7, UNLIKE}, {0, -1, 1, 0, 1, UNLIKE}, {0, 0, 2, 9, -1, UNLIKE},
            {0, 0, 0, 1, -1, OUTSIDE}, {0, -1, 0, 0, 2, OUTSIDE}, {0, 0, 0, -1, 2, OUTSIDE}, {0, 0, 0, 1, 7, OUTSIDE}, {0, 1, 0, 0, 7, OUTSIDE},
            {2, 3, 2, 0, 5, OUTSIDE}, {2, 0, 2, 3, 5, OUTSIDE}, {1, 0, 1, 3, MAX, OUTSIDE}, {1, 3, 1, 0, MIN, OUTSIDE}, {1, MAX, 1, 0, 1, OUTSIDE}};
        for (int[] c : calls) {
            refused("copy(" + c[0] + ", " + c[1] + ", " + c[2] + ", " + c[3] + ", " + c[4] + ")", x -> x.copy(c[0], c[1], c[2], c[3], c[4]), c[5]);
        }
    }

    private static void refusedPlanksBySheet() {
        int[][] calls = {{-1, 0, 0, 1, BAD}, {4, 0, 0, 1, BAD}, {0, -1, 0, 1, BAD}, {0, 3, 0, 1, BAD}, {0, 0, 0, -1, BAD}, {0, 0, 0, 11, BAD},
            {0, 0, 0, MIN, BAD}, {0, 0, 0, MAX, BAD}, {0, 1, 0, 11, BAD}, {3, 0, 0, 11, BAD}, {0, 0, -1, 11, BAD},
            {0, 1, 0, 1, UNLIKE}, {0, 2, 0, 1, UNLIKE}, {1, 0, 0, 1, UNLIKE}, {1, 2, 0, 1, UNLIKE}, {2, 0, 0, 1, UNLIKE}, {2, 1, -1, 1, UNLIKE},
            {3, 0, 0, 1, NOTHING}, {3, 2, -1, 10, NOTHING}, {3, 1, 0, 0, NOTHING},
            {0, 0, -1, 1, OUTSIDE}, {0, 0, 5, 1, OUTSIDE}, {0, 0, 7, 1, OUTSIDE}, {2, 2, MIN, 1, OUTSIDE}, {2, 2, MAX, 1, OUTSIDE}, {1, 1, MAX - 2, 10, OUTSIDE}};
        for (int[] c : calls) {
            refused("planks(" + c[0] + ", " + c[1] + ", " + c[2] + ", " + c[3] + ")", x -> x.planks(c[0], c[1], c[2], c[3]), c[4]);
        }
        int[][] taken = {{0, -1, BAD}, {0, 6, BAD}, {3, 6, BAD}, {3, 0, NOTHING}, {-1, 0, NOTHING}, {0, 1, UNLIKE}, {1, 2, UNLIKE}, {2, 5, UNLIKE}};
        for (int[] t : taken) refused("taken(" + t[0] + ", " + t[1] + ")", x -> x.taken(t[0], t[1]), t[2]);
    }

    private static void withoutRoom() {
        refused("plank(0, 10, 0)", x -> x.plank(0, 10, 0), FULL);
        refused("plank(5, 100300, 2009)", x -> x.plank(5, 100300, 2009), FULL);
        refused("plank(6, 10, 0)", x -> x.plank(6, 10, 0), BAD);
        refused("plank(0, 9, 0)", x -> x.plank(0, 9, 0), BAD);
        refused("plank(0, 10, 2010)", x -> x.plank(0, 10, 2010), BAD);
        for (int n = 1; n <= 8; n++) {
            int bytes = n;
            refused("feed(" + n + ", ..)", x -> x.feed(bytes, 0x3b3b3b3b3b3b3b3bL), FULL);
        }
        refused("feed(0, 32)", x -> x.feed(0, 32), BAD);
        refused("feed(9, 32)", x -> x.feed(9, 32), BAD);
        refused("text()", x -> x.text(), FULL);
        refused("force(6)", x -> x.force(6), BAD);
        refused("back()", x -> x.back(), STATE);
        refused("most(9)", x -> x.most(9), BAD);
        refused("planks(0, 0, 0, 1)", x -> x.planks(0, 0, 0, 1), NOTHING);
        all(RefusalTest::full);
    }

    private static void ofNew() {
        for (int what = 0; what < 5; what++) {
            int w = what;
            refused("set(" + what + ", 0, 0)", x -> x.set(w, 0, 0), BAD);
            if (what < 3) refused("run(1, 0, " + what + ")", x -> x.run(1, 0, w), NO);
        }
        refused("told(0, 0)", x -> x.told(0, 0), BAD);
        refused("gap(0, 0)", x -> x.gap(0, 0), BAD);
        refused("text()", x -> x.text(), -100);
        refused("force(1)", x -> x.force(1), BAD);
        refused("sack(1)", x -> x.sack(1), NO);
        refused("first(1)", x -> x.first(1), NONE);
        refused("first(0)", x -> x.first(0), BAD);
        refused("most(0)", x -> x.most(0), BAD);
        refused("back()", x -> x.back(), STATE);
        refused("taken(0, 0)", x -> x.taken(0, 0), NOTHING);
        refused("plank(0, 10, 2010)", x -> x.plank(0, 10, 2010), BAD);
        for (int sheet = 0; sheet < 4; sheet++) {
            int s = sheet;
            refused("cell(" + sheet + ", 0, 0)", x -> x.cell(s, 0, 0), NOTHING);
            refused("copy(" + sheet + ", 0, 0, 0, 0)", x -> x.copy(s, 0, 0, 0, 0), NOTHING);
            refused("planks(" + sheet + ", 0, 0, 1)", x -> x.planks(s, 0, 0, 1), NOTHING);
        }
        all(DriedOut::new);
    }
}
