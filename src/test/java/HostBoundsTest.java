/** The boundary cases of SHEETS, of planks() and of taken(): promises 23 to 27. */
public final class HostBoundsTest {
    private static final Sentences S = new Sentences();
    private static final int BAD = -2, NOTHING = -11, OUTSIDE = -12, UNLIKE = -13, BELOW = -14;
    private static final int MIN = Integer.MIN_VALUE, MAX = Integer.MAX_VALUE;
    private static final int[] NO_SHEETS = {-1, 4, MIN, MAX};

    public static void main(String[] args) {
        S.of("SHEETS 0 .. 3", HostBoundsTest::fourSheets);
        S.of("or missing (as all are at first)", HostBoundsTest::missingAtFirst);
        S.of("of sort 0 bytes, 1 shorts, 2 ints", HostBoundsTest::sorts);
        S.of("sheet: BAD: no such SHEET, sort", HostBoundsTest::sheetIsBad);
        S.of("sheet: n above 40", HostBoundsTest::sheetAtMost);
        S.of("sheet: -14 a size below 0", HostBoundsTest::sheetBelowZero);
        S.of("sheet: BAD ahead of -14", HostBoundsTest::sheetIsBadAhead);
        S.of("or missing (sort -1: n does not matter): 1", HostBoundsTest::becomesMissing);
        S.of("becomes a row of n of a sort, all 0", HostBoundsTest::allZero);
        S.of("cell: BAD: no such SHEET; -11; -12", HostBoundsTest::cellRefusals);
        S.of("cell: Item i of a SHEET becomes v: -12 a place outside", HostBoundsTest::cellPlaces);
        S.of("of bytes, shorts its lowest 8, 16 bits", HostBoundsTest::lowestBits);
        S.of("copy: BAD: no such SHEET", HostBoundsTest::copyIsBad);
        S.of("copy: -11 nothing where something is asked", HostBoundsTest::copyOfNothing);
        S.of("copy: -13: they are of unlike sorts", HostBoundsTest::copyOfUnlike);
        S.of("copy: -12 (also with n below 0)", HostBoundsTest::copyOutside);
        S.of("copy: n numbers .. : n", HostBoundsTest::copyAtTheEnds);
        S.of("copy: (as they were)", HostBoundsTest::copyAsTheyWere);
        S.of("planks: BAD: no such SHEET, sort, n", HostBoundsTest::planksIsBad);
        S.of("planks: -13", HostBoundsTest::planksOfAnotherSort);
        S.of("planks: -11", HostBoundsTest::planksOfNothing);
        S.of("planks: -12", HostBoundsTest::planksOutside);
        S.of("planks: -12: what stood ahead came", HostBoundsTest::planksAheadCame);
        S.of("planks: n of them (0 .. 10): how many came", HostBoundsTest::planksCome);
        S.of("planks: (others are left out)", HostBoundsTest::planksLeftOut);
        S.of("taken: BAD: k", HostBoundsTest::takenIsBad);
        S.of("taken: -11: no such PLANK", HostBoundsTest::takenNothing);
        S.of("taken: of KIND k (0 .. 5), or one under that one (also by others between); -13", HostBoundsTest::takenKinds);
        S.end();
    }

    private static void due(String call, long got, long want) {
        S.due(call, got, want);
    }

    /** An object whose SHEET is a row of these. */
    private static DriedOut row(int sheet, int sort, int... items) {
        return fill(new DriedOut(), sheet, sort, items);
    }

    private static DriedOut fill(DriedOut x, int sheet, int sort, int... items) {
        x.sheet(sheet, sort, items.length);
        for (int i = 0; i < items.length; i++) x.cell(sheet, i, items[i]);
        return x;
    }

    private static void fourSheets() {
        DriedOut x = new DriedOut();
        for (int sheet = 0; sheet < 4; sheet++) {
            due("sheet(" + sheet + ", 2, 3)", x.sheet(sheet, 2, 3), 1);
            due("cell(" + sheet + ", 0, 0)", x.cell(sheet, 0, 0), 1);
            due("copy(" + sheet + ", 0, 0, 0, 3)", x.copy(sheet, 0, 0, 0, 3), 3);
            due("copy(0, 0, " + sheet + ", 0, 3)", x.copy(0, 0, sheet, 0, 3), 3);
            due("planks(" + sheet + ", 2, 0, 1)", x.planks(sheet, 2, 0, 1), 0);
        }
        for (int sheet : NO_SHEETS) {
            due("sheet(" + sheet + ", 2, 3)", x.sheet(sheet, 2, 3), BAD);
            due("sheet(" + sheet + ", -1, 3)", x.sheet(sheet, -1, 3), BAD);
            due("cell(" + sheet + ", 0, 0)", x.cell(sheet, 0, 0), BAD);
            due("copy(" + sheet + ", 0, 0, 0, 3)", x.copy(sheet, 0, 0, 0, 3), BAD);
            due("copy(0, 0, " + sheet + ", 0, 3)", x.copy(0, 0, sheet, 0, 3), BAD);
            due("planks(" + sheet + ", 2, 0, 1)", x.planks(sheet, 2, 0, 1), BAD);
        }
        // each is a row of its own
        DriedOut y = row(3, 2, 0, 10, 0);
        fill(y, 0, 2, 6, 10, 0);
        due("the PLANK of SHEET 3", y.planks(3, 2, 0, 1), 1);
        due("none of SHEET 0", y.planks(0, 2, 0, 1), 0);
    }

    private static void missingAtFirst() {
        DriedOut x = new DriedOut();
        for (int sheet = 0; sheet < 4; sheet++) {
            due("cell(" + sheet + ", 0, 0)", x.cell(sheet, 0, 0), NOTHING);
            due("copy(" + sheet + ", 0, " + sheet + ", 0, 0)", x.copy(sheet, 0, sheet, 0, 0), NOTHING);
            for (int sort = 0; sort < 3; sort++) due("planks(" + sheet + ", " + sort + ", 0, 0)", x.planks(sheet, sort, 0, 0), NOTHING);
        }
        x.sheet(1, 0, 1);
        for (int sheet = 0; sheet < 4; sheet++) due("cell(" + sheet + ", 0, 0)", x.cell(sheet, 0, 0), sheet == 1 ? 1 : NOTHING);
    }

    private static void sorts() {
        for (int sort = 0; sort < 3; sort++) {
            DriedOut x = new DriedOut();
            due("sheet(0, " + sort + ", 3)", x.sheet(0, sort, 3), 1);
            for (int other = 0; other < 3; other++) {
                due("planks(0, " + other + ", 0, 0) of sort " + sort, x.planks(0, other, 0, 0), other == sort ? 0 : UNLIKE);
            }
        }
    }

    private static void sheetIsBad() {
        DriedOut x = row(0, 2, 0, 10, 0);
        for (int sheet : NO_SHEETS) due("sheet(" + sheet + ", 0, 1)", x.sheet(sheet, 0, 1), BAD);
        for (int sort : new int[] {-2, 3, MIN, MAX}) {
            due("sheet(0, " + sort + ", 1)", x.sheet(0, sort, 1), BAD);
            due("sheet(1, " + sort + ", 1)", x.sheet(1, sort, 1), BAD);
        }
        due("SHEET 0 is as it was", x.planks(0, 2, 0, 1), 1);
        due("SHEET 1 is missing", x.cell(1, 0, 0), NOTHING);
    }

    private static void sheetAtMost() {
        for (int sort = 0; sort < 3; sort++) {
            DriedOut x = new DriedOut();
            for (int n : new int[] {41, 42, MAX}) due("sheet(0, " + sort + ", " + n + ")", x.sheet(0, sort, n), BAD);
            due("it is missing", x.cell(0, 0, 0), NOTHING);
            for (int n : new int[] {0, 1, 39, 40}) {
                due("sheet(0, " + sort + ", " + n + ")", x.sheet(0, sort, n), 1);
                due("its last item", x.cell(0, n - 1, 1), n > 0 ? 1 : OUTSIDE);
                due("the one behind", x.cell(0, n, 1), OUTSIDE);
            }
        }
    }

    private static void sheetBelowZero() {
        for (int sort = 0; sort < 3; sort++) {
            DriedOut x = new DriedOut();
            for (int n : new int[] {-1, -2, MIN}) due("sheet(0, " + sort + ", " + n + ")", x.sheet(0, sort, n), BELOW);
            due("it is missing", x.cell(0, 0, 0), NOTHING);
            due("sheet(0, " + sort + ", 0)", x.sheet(0, sort, 0), 1);
            due("it has no item", x.cell(0, 0, 0), OUTSIDE);
            due("sheet(0, " + sort + ", -1)", x.sheet(0, sort, -1), BELOW);
            due("it is as it was", x.copy(0, 0, 0, 0, 0), 0);
        }
    }

    private static void sheetIsBadAhead() {
        for (int sheet : NO_SHEETS) {
            for (int n : new int[] {-1, MIN, 41}) due("sheet(" + sheet + ", 0, " + n + ")", new DriedOut().sheet(sheet, 0, n), BAD);
        }
        for (int sort : new int[] {-2, 3, MIN, MAX}) {
            for (int n : new int[] {-1, MIN, 41}) due("sheet(0, " + sort + ", " + n + ")", new DriedOut().sheet(0, sort, n), BAD);
        }
    }

    private static void becomesMissing() {
        for (int n : new int[] {0, 1, 40, 41, -1, MIN, MAX}) {
            DriedOut x = row(1, 2, 0, 10, 0);
            fill(x, 2, 2, 0, 10, 0);
            due("sheet(1, -1, " + n + ")", x.sheet(1, -1, n), 1);
            due("it is missing", x.cell(1, 0, 0), NOTHING);
            due("planks of it", x.planks(1, 2, 0, 1), NOTHING);
            due("sheet(1, -1, " + n + ") once more", x.sheet(1, -1, n), 1);
            due("another one isn't", x.cell(2, 2, 0), 1);
            due("a row again", x.sheet(1, 2, 3), 1);
            due("all 0", x.planks(1, 2, 0, 1), 0);
        }
    }

    private static void allZero() {
        // a row whose every item is a WIDTH but for one that is made 0 anew
        for (int sort = 0; sort < 3; sort++) {
            DriedOut x = row(0, sort, 5, 10, 15);
            due("sheet(0, " + sort + ", 3)", x.sheet(0, sort, 3), 1);
            due("three 0s are no PLANK", x.planks(0, sort, 0, 1), 0);
            x.cell(0, 1, 10);
            due("with a WIDTH they are one", x.planks(0, sort, 0, 1), 1);
            due("KIND 0", x.told(0, 0), 0);
            due("NUMBER 0", x.told(0, 7), 0);
        }
        DriedOut y = new DriedOut();
        y.sheet(0, 2, 40);
        for (int i = 0; i < 40; i++) y.cell(0, i, 99);
        y.sheet(0, 2, 40);
        for (int i = 38; i > 0; i -= 3) y.cell(0, i, 10);
        due("0, 10, 0 and so on, to the last item", y.planks(0, 2, 10, 10), 10);
        for (int i = 0; i < 10; i++) due("NUMBER of " + i, y.told(i, 7) + y.told(i, 0), 0);
    }

    private static void cellRefusals() {
        DriedOut x = new DriedOut();
        for (int sheet : NO_SHEETS) {
            due("cell(" + sheet + ", 0, 0)", x.cell(sheet, 0, 0), BAD);
            due("cell(" + sheet + ", -1, 0)", x.cell(sheet, -1, 0), BAD);
            due("cell(" + sheet + ", MAX, 0)", x.cell(sheet, MAX, 0), BAD);
        }
        for (int i : new int[] {0, -1, 40, MIN, MAX}) due("missing: cell(0, " + i + ", 0)", x.cell(0, i, 0), NOTHING);
        x.sheet(0, 0, 0);
        for (int i : new int[] {0, -1, 40, MIN, MAX}) due("of no items: cell(0, " + i + ", 0)", x.cell(0, i, 0), OUTSIDE);
    }

    private static void cellPlaces() {
        DriedOut x = row(0, 2, 7, 10, 7);
        for (int i : new int[] {-1, 3, 40, MIN, MAX}) due("cell(0, " + i + ", 5)", x.cell(0, i, 5), OUTSIDE);
        due("cell(0, 0, 5)", x.cell(0, 0, 5), 1);
        due("cell(0, 2, 5)", x.cell(0, 2, 5), 1);
        due("the PLANK", x.planks(0, 2, 0, 1), 1);
        due("its KIND", x.told(0, 0), 5);
        due("its NUMBER", x.told(0, 7), 5);
        DriedOut y = new DriedOut();
        y.sheet(0, 1, 40);
        due("cell(0, 39, 1)", y.cell(0, 39, 1), 1);
        due("cell(0, 40, 1)", y.cell(0, 40, 1), OUTSIDE);
    }

    /** What WET (by 1000) and WIDTH a PLANK has whose second number was put so; BAD, if none comes. */
    private static int asWhat(int sort, int v) {
        DriedOut x = row(0, sort, 0, v, 0);
        return x.planks(0, sort, 0, 1) == 1 ? 1000 * x.told(0, 2) + x.told(0, 1) : BAD;
    }

    private static void lowestBits() {
        int[] bytes = {10, 127, 128, 255, 256 + 10, 256 + 127, 256 + 128, 512 + 99, -256 + 77, -128, MAX, MIN, MIN + 20, 65536 + 10};
        int[] ofBytes = {10, 127, BAD, BAD, 10, 127, BAD, 99, 77, BAD, BAD, BAD, 20, 10};
        for (int i = 0; i < bytes.length; i++) due("a byte of " + bytes[i], asWhat(0, bytes[i]), ofBytes[i]);
        int[] shorts = {10, 255, 256 + 10, 32010, 32300, 32767, 32768, 65536 + 10, 65536 + 32010, 65535, -65536 + 5100, 98304 + 10, MAX, MIN, MIN + 300};
        int[] ofShorts = {10, 255, 266, 32010, 32300, BAD, BAD, 10, 32010, BAD, 5100, BAD, BAD, BAD, 300};
        for (int i = 0; i < shorts.length; i++) due("a short of " + shorts[i], asWhat(1, shorts[i]), ofShorts[i]);
        int[] ints = {10, 33010, 65300, 100300, 65536 + 10, -65536 + 10, MAX, MIN, MIN + 300};
        int[] ofInts = {10, 33010, 65300, 100300, BAD, BAD, BAD, BAD, BAD};
        for (int i = 0; i < ints.length; i++) due("an int of " + ints[i], asWhat(2, ints[i]), ofInts[i]);
    }

    private static void copyIsBad() {
        DriedOut x = new DriedOut();
        x.sheet(0, 2, 3);
        for (int no : NO_SHEETS) {
            due("copy(" + no + ", 0, 0, 0, 0)", x.copy(no, 0, 0, 0, 0), BAD);
            due("copy(0, 0, " + no + ", 0, 0)", x.copy(0, 0, no, 0, 0), BAD);
            due("copy(" + no + ", 0, " + no + ", 0, 0)", x.copy(no, 0, no, 0, 0), BAD);
            due("ahead of -11: copy(3, 0, " + no + ", 0, 0)", x.copy(3, 0, no, 0, 0), BAD);
            due("ahead of -11: copy(" + no + ", 0, 3, 0, 0)", x.copy(no, 0, 3, 0, 0), BAD);
            due("ahead of -12: copy(0, -1, " + no + ", 0, -1)", x.copy(0, -1, no, 0, -1), BAD);
            due("ahead of -12: copy(" + no + ", 9, 0, 9, 9)", x.copy(no, 9, 0, 9, 9), BAD);
        }
    }

    private static void copyOfNothing() {
        DriedOut x = new DriedOut();
        x.sheet(0, 2, 3);
        int[][] places = {{0, 0, 0}, {0, 0, 1}, {-1, 0, 1}, {0, -1, 1}, {0, 0, -1}, {9, 9, 9}, {MIN, MAX, MIN}};
        for (int[] p : places) {
            due("from a missing one: copy(3, .., 0, ..)", x.copy(3, p[0], 0, p[1], p[2]), NOTHING);
            due("to a missing one: copy(0, .., 3, ..)", x.copy(0, p[0], 3, p[1], p[2]), NOTHING);
            due("both missing: copy(2, .., 3, ..)", x.copy(2, p[0], 3, p[1], p[2]), NOTHING);
            due("the same missing: copy(3, .., 3, ..)", x.copy(3, p[0], 3, p[1], p[2]), NOTHING);
        }
        x.sheet(0, -1, 0);
        due("missing anew", x.copy(0, 0, 0, 0, 0), NOTHING);
    }

    private static void copyOfUnlike() {
        DriedOut x = new DriedOut();
        for (int sort = 0; sort < 3; sort++) x.sheet(sort, sort, 6);
        int[][] places = {{0, 0, 0}, {0, 0, 6}, {-1, 0, 1}, {0, -1, 1}, {0, 0, -1}, {7, 7, 7}, {MIN, MAX, MIN}};
        for (int from = 0; from < 3; from++) {
            for (int to = 0; to < 3; to++) {
                if (from == to) continue;
                for (int[] p : places) due("copy(" + from + ", .., " + to + ", ..)", x.copy(from, p[0], to, p[1], p[2]), UNLIKE);
            }
        }
        x.sheet(3, 1, 6);
        due("of like sorts", x.copy(1, 0, 3, 0, 6), 6);
    }

    private static void copyOutside() {
        DriedOut x = new DriedOut();
        x.sheet(0, 1, 6);
        x.sheet(1, 1, 4);
        int[][] outside = {{0, 0, -1}, {0, 0, MIN}, {-1, 0, 1}, {-1, 0, 0}, {0, -1, 1}, {0, -1, 0}, {0, 0, 5}, {3, 0, 4}, {6, 0, 1}, {7, 0, 0},
            {0, 4, 1}, {0, 5, 0}, {0, 1, 4}, {MAX, 0, 1}, {MAX, 0, MAX}, {0, MAX, 1}, {0, MAX, MAX}, {0, 0, MAX}, {1, 1, MAX}, {MIN, 0, 1}, {0, MIN, 1},
            {MIN, MIN, MIN}, {MAX, MAX, 0}, {2, 2, MAX - 1}};
        for (int[] o : outside) {
            due("copy(0, " + o[0] + ", 1, " + o[1] + ", " + o[2] + ")", x.copy(0, o[0], 1, o[1], o[2]), OUTSIDE);
        }
        due("within one, outside of the other: copy(1, 0, 0, 3, 4)", x.copy(1, 0, 0, 3, 4), OUTSIDE);
        due("the same one: copy(0, 1, 0, 0, 6)", x.copy(0, 1, 0, 0, 6), OUTSIDE);
        due("the same one: copy(0, 0, 0, 1, 6)", x.copy(0, 0, 0, 1, 6), OUTSIDE);
    }

    private static void copyAtTheEnds() {
        DriedOut x = new DriedOut();
        x.sheet(0, 1, 6);
        x.sheet(1, 1, 4);
        x.sheet(2, 1, 0);
        int[][] within = {{0, 0, 1, 0, 4}, {0, 2, 1, 0, 4}, {0, 5, 1, 3, 1}, {0, 0, 1, 3, 1}, {0, 0, 0, 0, 6}, {0, 0, 1, 0, 0}, {0, 6, 1, 4, 0},
            {0, 6, 2, 0, 0}, {2, 0, 2, 0, 0}, {1, 0, 0, 2, 4}};
        for (int[] w : within) {
            due("copy(" + w[0] + ", " + w[1] + ", " + w[2] + ", " + w[3] + ", " + w[4] + ")", x.copy(w[0], w[1], w[2], w[3], w[4]), w[4]);
        }
        DriedOut all = new DriedOut();
        all.sheet(0, 2, 40);
        all.sheet(1, 2, 40);
        due("40 of 40", all.copy(0, 0, 1, 0, 40), 40);
        due("41 of 40", all.copy(0, 0, 1, 0, 41), OUTSIDE);
        // the items beside those that come stay
        DriedOut y = row(0, 2, 5, 20, 6);
        fill(y, 1, 2, 1, 10, 2);
        due("one, in the middle", y.copy(0, 1, 1, 1, 1), 1);
        due("the PLANK", y.planks(1, 2, 0, 1), 1);
        due("its KIND stays", y.told(0, 0), 1);
        due("its WIDTH came", y.told(0, 1), 20);
        due("its NUMBER stays", y.told(0, 7), 2);
        due("none of them: copy(0, 0, 1, 0, 0)", y.copy(0, 0, 1, 0, 0), 0);
        due("the PLANK once more", y.planks(1, 2, 0, 1), 1);
        due("its KIND stays, too", y.told(1, 0), 1);
    }

    private static void copyAsTheyWere() {
        // one item on, and one back, within the same SHEET
        DriedOut x = row(0, 2, 3, 11, 1, 2, 22, 2, 0);
        due("copy(0, 0, 0, 1, 6)", x.copy(0, 0, 0, 1, 6), 6);
        due("planks(0, 2, 1, 2)", x.planks(0, 2, 1, 2), 2);
        int[][] want = {{3, 11, 1}, {2, 22, 2}};
        for (int i = 0; i < 2; i++) {
            due("KIND of " + i, x.told(i, 0), want[i][0]);
            due("WIDTH of " + i, x.told(i, 1), want[i][1]);
            due("NUMBER of " + i, x.told(i, 7), want[i][2]);
        }
        due("copy(0, 1, 0, 0, 6)", x.copy(0, 1, 0, 0, 6), 6);
        due("planks(0, 2, 0, 2)", x.planks(0, 2, 0, 2), 2);
        for (int i = 0; i < 2; i++) {
            due("one back: KIND of " + i, x.told(2 + i, 0), want[i][0]);
            due("one back: WIDTH of " + i, x.told(2 + i, 1), want[i][1]);
            due("one back: NUMBER of " + i, x.told(2 + i, 7), want[i][2]);
        }
    }

    private static void planksIsBad() {
        DriedOut x = new DriedOut();
        x.sheet(0, 1, 6);
        for (int sheet : NO_SHEETS) {
            due("planks(" + sheet + ", 1, 0, 1)", x.planks(sheet, 1, 0, 1), BAD);
            due("planks(" + sheet + ", 1, -1, 0)", x.planks(sheet, 1, -1, 0), BAD);
        }
        for (int sort : new int[] {-1, 3, MIN, MAX}) {
            due("planks(0, " + sort + ", 0, 1)", x.planks(0, sort, 0, 1), BAD);
            due("ahead of -11: planks(3, " + sort + ", 0, 1)", x.planks(3, sort, 0, 1), BAD);
            due("ahead of -12: planks(0, " + sort + ", 9, 1)", x.planks(0, sort, 9, 1), BAD);
        }
        for (int n : new int[] {-1, 11, MIN, MAX}) {
            due("planks(0, 1, 0, " + n + ")", x.planks(0, 1, 0, n), BAD);
            due("ahead of -13: planks(0, 2, 0, " + n + ")", x.planks(0, 2, 0, n), BAD);
            due("ahead of -11: planks(3, 1, 0, " + n + ")", x.planks(3, 1, 0, n), BAD);
            due("ahead of -12: planks(0, 1, 9, " + n + ")", x.planks(0, 1, 9, n), BAD);
        }
        due("count(0)", x.count(0), 0);
    }

    private static void planksOfAnotherSort() {
        for (int sort = 0; sort < 3; sort++) {
            DriedOut x = row(0, sort, 0, 10, 0);
            for (int other = 0; other < 3; other++) {
                if (other == sort) continue;
                for (int from : new int[] {0, -1, 1, MIN, MAX}) {
                    due("planks(0, " + other + ", " + from + ", 1) of sort " + sort, x.planks(0, other, from, 1), UNLIKE);
                }
                due("planks(0, " + other + ", 0, 0) of sort " + sort, x.planks(0, other, 0, 0), UNLIKE);
            }
            due("count(0)", x.count(0), 0);
            due("of its own sort", x.planks(0, sort, 0, 1), 1);
        }
    }

    private static void planksOfNothing() {
        DriedOut x = row(0, 2, 0, 10, 0);
        for (int sort = 0; sort < 3; sort++) {
            for (int from : new int[] {0, -1, 40, MIN, MAX}) {
                for (int n : new int[] {0, 1, 10}) due("planks(1, " + sort + ", " + from + ", " + n + ")", x.planks(1, sort, from, n), NOTHING);
            }
        }
        x.sheet(0, -1, 0);
        for (int sort = 0; sort < 3; sort++) due("missing anew: planks(0, " + sort + ", 0, 1)", x.planks(0, sort, 0, 1), NOTHING);
        due("count(0)", x.count(0), 0);
    }

    private static void planksOutside() {
        DriedOut x = row(0, 2, 0, 10, 0, 0, 10);
        for (int from : new int[] {-1, -2, -3, 3, 4, 5, 6, 40, MIN, MAX, MAX - 1, MAX - 2}) {
            due("planks(0, 2, " + from + ", 1)", x.planks(0, 2, from, 1), OUTSIDE);
            due("planks(0, 2, " + from + ", 10)", x.planks(0, 2, from, 10), OUTSIDE);
        }
        due("none came", x.count(0), 0);
        due("from the last place that has three", x.planks(0, 2, 2, 1), 0);
        due("from the first", x.planks(0, 2, 0, 1), 1);
        DriedOut none = new DriedOut();
        none.sheet(0, 2, 0);
        due("of no items", none.planks(0, 2, 0, 1), OUTSIDE);
        due("of no items, none of them", none.planks(0, 2, 0, 0), 0);
        DriedOut forty = new DriedOut();
        forty.sheet(0, 0, 40);
        due("ten of 40, from 10", forty.planks(0, 0, 10, 10), 0);
        due("ten of 40, from 11", forty.planks(0, 0, 11, 10), OUTSIDE);
        due("one of 40, from 37", forty.planks(0, 0, 37, 1), 0);
        due("one of 40, from 38", forty.planks(0, 0, 38, 1), OUTSIDE);
    }

    private static void planksAheadCame() {
        // two PLANKS, and two numbers of a third
        DriedOut x = row(0, 2, 1, 7011, 1, 2, 8012, 52, 3, 9013);
        due("planks(0, 2, 0, 3)", x.planks(0, 2, 0, 3), OUTSIDE);
        due("two came", x.count(0), 2);
        due("the first", x.told(0, 1), 11);
        due("the second", x.told(1, 1), 12);
        due("its GAP", x.gap(0, 0), 5);
        due("planks(0, 2, 3, 10)", x.planks(0, 2, 3, 10), OUTSIDE);
        due("one more came", x.count(0), 3);
        due("it", x.told(2, 1), 12);
        // what stood ahead and is no PLANK is left out
        DriedOut y = row(0, 2, 6, 10, 0, 0, 20, 0, 0);
        due("planks(0, 2, 0, 3), one left out", y.planks(0, 2, 0, 3), OUTSIDE);
        due("one came", y.count(0), 1);
        due("the second of them", y.told(0, 1), 20);
        DriedOut full = fill(Boats.planks(new DriedOut(), 10), 0, 2, 0, 10, 0);
        due("no room, and outside then", full.planks(0, 2, 0, 2), OUTSIDE);
        due("no room, and within", full.planks(0, 2, 0, 1), 0);
    }

    private static void planksCome() {
        DriedOut x = new DriedOut();
        x.sheet(0, 2, 30);
        for (int i = 0; i < 10; i++) x.cell(0, 3 * i + 1, 1000 * i + 10 + i);
        due("planks(0, 2, 0, 0)", x.planks(0, 2, 0, 0), 0);
        due("none came", x.count(0), 0);
        due("planks(0, 2, 0, 10)", x.planks(0, 2, 0, 10), 10);
        due("ten came", x.count(0), 10);
        for (int i = 0; i < 10; i++) due("WIDTH of " + i, x.told(i, 1), 10 + i);
        for (int i = 0; i < 10; i++) due("WET of " + i, x.told(i, 2), i);
        // none of them is asked: no place is outside
        for (int from : new int[] {0, 30, 31, -1, MIN, MAX}) due("planks(0, 2, " + from + ", 0)", x.planks(0, 2, from, 0), 0);
        DriedOut y = row(0, 1, 9, 9, 0, 10, 0, 1, 1011, 12, 2);
        due("from one on, three by three: planks(0, 1, 2, 2)", y.planks(0, 1, 2, 2), 2);
        due("KIND of 1", y.told(1, 0), 1);
        due("WET of 1", y.told(1, 2), 1);
        due("NUMBER of 1", y.told(1, 7), 2);
        due("GAP", y.gap(0, 0), 1);
    }

    private static void planksLeftOut() {
        DriedOut x = row(0, 2, -1, 10, 0, 6, 10, 0, 0, 9, 0, 0, 301, 0, 0, 101010, 0, 0, -1, 0, 0, 10, 2010, 0, 10, -1, 0, 10, 7, 5, 300, 2009);
        due("eight are BAD, two come", x.planks(0, 2, 0, 10), 2);
        due("count(0)", x.count(0), 2);
        due("NUMBER of 0", x.told(0, 7), 7);
        due("NUMBER of 1", x.told(1, 7), 9);
        due("GAP", x.gap(0, 0), 200);
        Boats.planks(x, 7);
        due("room for one of two", x.planks(0, 2, 24, 2), 1);
        due("count(0)", x.count(0), 10);
        due("the tenth", x.told(9, 7), 7);
        due("room for none", x.planks(0, 2, 24, 2), 0);
    }

    private static void takenIsBad() {
        DriedOut x = Boats.planks(new DriedOut(), 1);
        for (int k : new int[] {-1, 6, MIN, MAX}) {
            due("taken(0, " + k + ")", x.taken(0, k), BAD);
            due("ahead of -11: taken(1, " + k + ")", x.taken(1, k), BAD);
            due("no PLANK: taken(0, " + k + ")", new DriedOut().taken(0, k), BAD);
        }
    }

    private static void takenNothing() {
        for (int k = 0; k < 6; k++) {
            due("no PLANK: taken(0, " + k + ")", new DriedOut().taken(0, k), NOTHING);
            DriedOut x = Boats.planks(new DriedOut(), 2);
            for (int plank : new int[] {-1, 2, MIN, MAX}) due("taken(" + plank + ", " + k + ")", x.taken(plank, k), NOTHING);
        }
        DriedOut ten = Boats.planks(new DriedOut(), 10);
        due("taken(9, 0)", ten.taken(9, 0), 0);
        due("taken(10, 0)", ten.taken(10, 0), NOTHING);
    }

    private static void takenKinds() {
        // of each KIND: it, and those above it
        int[][] under = {{0}, {1, 0}, {2, 0}, {3, 1, 0}, {4, 0}, {5, 2, 0}};
        for (int kind = 0; kind < 6; kind++) {
            for (int number : new int[] {0, 9}) {
                DriedOut x = new DriedOut();
                x.plank(kind, 10, number);
                int[] want = {UNLIKE, UNLIKE, UNLIKE, UNLIKE, UNLIKE, UNLIKE};
                for (int k : under[kind]) want[k] = number;
                for (int k = 0; k < 6; k++) due("KIND " + kind + ", taken(0, " + k + ")", x.taken(0, k), want[k]);
            }
        }
    }
}
