/** The boundary cases of the Terms' words on PLANKS and GAPS, and of promises 1 to 5. */
public final class PlankBoundsTest {
    private static final Sentences S = new Sentences();
    private static final int BAD = -2, STATE = -3, FULL = -4, NONE = -1;
    private static final long NO = -4611686018427387904L;
    private static final int MIN = Integer.MIN_VALUE, MAX = Integer.MAX_VALUE;

    public static void main(String[] args) {
        S.of("PLANKS (10 at most, numbered from 0", PlankBoundsTest::tenPlanks);
        S.of("have a KIND: 0 PLANK, .. 5 NEW", PlankBoundsTest::kinds);
        S.of("a WIDTH (10 .. 300)", PlankBoundsTest::widths);
        S.of("WET (0 .. 100)", PlankBoundsTest::wets);
        S.of("a NUMBER (0 .. 9)", PlankBoundsTest::numbers);
        S.of("GAP i lies between PLANK i (below it) and PLANK i and 1", PlankBoundsTest::gapsLieBetween);
        S.of("how wide (0 .. 200, as it is told)", PlankBoundsTest::widePlaces);
        S.of("STUFFING (0 .. 100; 0 at first)", PlankBoundsTest::stuffings);
        S.of("FAST (1, as at first), or its fastening is gone (0)", PlankBoundsTest::fastenings);
        S.of("NAILS (0 .. 99; 0 at first)", PlankBoundsTest::nailed);
        S.of("DAY (0 .. 9999; 0 at first)", PlankBoundsTest::days);
        S.of("SALT (0 .. 9; 0 at first)", PlankBoundsTest::salts);
        S.of("PUMP (0 .. 9999 a day; 500 at first)", PlankBoundsTest::pumps);
        S.of("NONE is -1; NO .. -4611686018427387904; BAD (-2), STATE (-3), FULL (-4)", PlankBoundsTest::constants);
        S.of("DriedOut(): No PLANKS; DAY 0", PlankBoundsTest::newObject);
        S.of("a GAP between it and the one ahead, if there is one", PlankBoundsTest::gapIfThereIsOneAhead);
        S.of("what: 1000 times WET, and WIDTH", PlankBoundsTest::whatIsTaken);
        S.of("more: 10 times GAP, and NUMBER", PlankBoundsTest::moreIsTaken);
        S.of("plank: BAD; FULL", PlankBoundsTest::plankIsBadAheadOfFull);
        S.of("set: WET (what 0) .. PUMP (6", PlankBoundsTest::setWhat);
        S.of("set: of a PLANK", PlankBoundsTest::setOfPlank);
        S.of("set: of a GAP", PlankBoundsTest::setOfGap);
        S.of("by 5, 6 of does not matter", PlankBoundsTest::setOfNothing);
        S.of("become v: what it was", PlankBoundsTest::setWhatItWas);
        S.of("told: Of a PLANK: 0 KIND, .. 7 NUMBER. BAD", PlankBoundsTest::toldBounds);
        S.of("gap: Of a GAP: 0 GAP, .. 4 PRESS. BAD", PlankBoundsTest::gapBounds);
        S.end();
    }

    private static void due(String call, long got, long want) {
        S.due(call, got, want);
    }

    /** A call with each of these must be BAD, and no PLANK comes. */
    private static void noPlank(int kind, int what, int more) {
        DriedOut x = Boats.planks(new DriedOut(), 1);
        due("plank(" + kind + ", " + what + ", " + more + ")", x.plank(kind, what, more), BAD);
        due("count(0) behind it", x.count(0), 1);
    }

    private static DriedOut plank(int kind, int what, int more) {
        DriedOut x = Boats.planks(new DriedOut(), 1);
        due("plank(" + kind + ", " + what + ", " + more + ")", x.plank(kind, what, more), 1);
        return x;
    }

    /** What set and look must answer for a thing that may be 0 .. most. */
    private static void held(DriedOut x, int what, int of, int most) {
        String set = "set(" + what + ", " + of + ", ";
        x.set(what, of, most);
        due(set + most + 1 + ")", x.set(what, of, most + 1), BAD);
        due(set + "-1)", x.set(what, of, -1), BAD);
        due(set + "MAX)", x.set(what, of, MAX), BAD);
        due(set + "MIN)", x.set(what, of, MIN), BAD);
        due(set + "0)", x.set(what, of, 0), most);
        due(set + "-1) at 0", x.set(what, of, -1), BAD);
        due(set + most + ")", x.set(what, of, most), 0);
    }

    private static void tenPlanks() {
        DriedOut x = new DriedOut();
        for (int i = 0; i < 10; i++) {
            due("plank " + i, x.plank(i % 6, 1000 * i + 10 + i, 10 * i + i), i);
            due("count(0)", x.count(0), i + 1);
        }
        due("plank 10", x.plank(0, 10, 0), FULL);
        due("plank 11", x.plank(5, 100300, 2009), FULL);
        due("count(0)", x.count(0), 10);
        for (int i = 0; i < 10; i++) due("KIND of " + i, x.told(i, 0), i % 6);
        for (int i = 0; i < 10; i++) due("WIDTH of " + i, x.told(i, 1), 10 + i);
        for (int i = 0; i < 10; i++) due("NUMBER of " + i, x.told(i, 7), i);
        for (int g = 0; g < 9; g++) due("GAP " + g, x.gap(g, 0), g + 1);
    }

    private static void kinds() {
        for (int kind = 0; kind < 6; kind++) due("KIND", plank(kind, 10, 0).told(1, 0), kind);
        for (int kind : new int[] {-1, 6, MIN, MAX}) noPlank(kind, 10, 0);
    }

    private static void widths() {
        for (int width : new int[] {10, 11, 299, 300}) due("WIDTH", plank(0, 50000 + width, 0).told(1, 1), width);
        for (int width : new int[] {0, 9, 301, 999}) {
            noPlank(0, width, 0);
            noPlank(0, 50000 + width, 0);
            noPlank(0, 100000 + width, 0);
        }
    }

    private static void wets() {
        for (int wet : new int[] {0, 1, 99, 100}) due("WET", plank(0, 1000 * wet + 10, 0).told(1, 2), wet);
        noPlank(0, 101010, 0);
        noPlank(0, -1000 + 10, 0);
        noPlank(0, -1000 + 300, 0);
        noPlank(0, MAX, 0);
        noPlank(0, MIN, 0);
        held(Boats.planks(new DriedOut(), 1), 0, 0, 100);
    }

    private static void numbers() {
        due("NUMBER 0", plank(0, 10, 0).told(1, 7), 0);
        due("NUMBER 9", plank(0, 10, 9).told(1, 7), 9);
        due("NUMBER of 10, as 1 is GAP", plank(0, 10, 10).told(1, 7), 0);
        due("NUMBER of 2009", plank(0, 10, 2009).told(1, 7), 9);
        noPlank(0, 10, -1);
        noPlank(0, 10, -9);
    }

    private static void gapsLieBetween() {
        DriedOut x = new DriedOut();
        due("no PLANK: gap(0, 0)", x.gap(0, 0), BAD);
        x.plank(0, 10, 50);
        due("one PLANK: gap(0, 0)", x.gap(0, 0), BAD);
        for (int i = 1; i < 10; i++) {
            x.plank(0, 10, 10 * i);
            due("the last GAP", x.gap(i - 1, 0), i);
            due("one behind", x.gap(i, 0), BAD);
        }
        due("GAP -1", x.gap(-1, 0), BAD);
        due("GAP 0", x.gap(0, 0), 1);
        // wide 10: dry planks grow 0; PLANK 3 grows 10, so only GAPS 2 and 3 are 5 less
        DriedOut y = new DriedOut();
        for (int i = 0; i < 6; i++) y.plank(0, i == 3 ? 100200 : 200, 100);
        int[] open = {10, 10, 5, 5, 10};
        for (int g = 0; g < 5; g++) due("OPEN of " + g, y.gap(g, 3), open[g]);
    }

    private static void widePlaces() {
        due("GAP 0", plank(0, 10, 9).gap(0, 0), 0);
        due("GAP 1", plank(0, 10, 19).gap(0, 0), 1);
        due("GAP 200", plank(0, 10, 2000).gap(0, 0), 200);
        due("GAP 200, NUMBER 9", plank(0, 10, 2009).gap(0, 0), 200);
        noPlank(0, 10, 2010);
        noPlank(0, 10, 2019);
        noPlank(0, 10, -10);
        noPlank(0, 10, MAX);
        noPlank(0, 10, MIN);
        held(Boats.planks(new DriedOut(), 2), 2, 0, 200);
    }

    private static void stuffings() {
        DriedOut x = Boats.planks(new DriedOut(), 3);
        due("at first", x.gap(0, 1), 0);
        due("at first, of another one", x.gap(1, 1), 0);
        held(x, 3, 1, 100);
        due("STUFFING", x.gap(1, 1), 100);
        due("the other one's", x.gap(0, 1), 0);
    }

    private static void fastenings() {
        DriedOut x = Boats.planks(new DriedOut(), 3);
        due("at first", x.gap(0, 2), 1);
        due("at first, of another one", x.gap(1, 2), 1);
        held(x, 4, 1, 1);
        x.set(4, 1, 0);
        due("gone", x.gap(1, 2), 0);
        due("the other one's", x.gap(0, 2), 1);
    }

    private static void nailed() {
        DriedOut x = Boats.planks(new DriedOut(), 2);
        due("at first", x.told(0, 6), 0);
        due("at first, of another one", x.told(1, 6), 0);
        held(x, 1, 1, 99);
        due("NAILS", x.told(1, 6), 99);
        due("the other one's", x.told(0, 6), 0);
    }

    private static void days() {
        DriedOut x = new DriedOut();
        due("at first", x.count(3), 0);
        Boats.aired(x, 9998);
        due("9998", x.count(3), 9998);
        due("air(1)", x.air(1), 9999);
        due("air(1) then", x.air(1), 9999);
        due("count(3)", x.count(3), 9999);
    }

    private static void salts() {
        DriedOut x = new DriedOut();
        due("at first", x.count(7), 0);
        held(x, 5, 0, 9);
        due("SALT", x.count(7), 9);
    }

    private static void pumps() {
        DriedOut x = new DriedOut();
        due("at first", x.count(8), 500);
        held(x, 6, 0, 9999);
        due("PUMP", x.count(8), 9999);
    }

    private static void constants() {
        due("NONE", DriedOut.NONE, NONE);
        due("BAD", DriedOut.BAD, BAD);
        due("STATE", DriedOut.STATE, STATE);
        due("FULL", DriedOut.FULL, FULL);
        due("NO", DriedOut.NO, NO);
        due("NO, as 2 by itself 62 times, below 0", DriedOut.NO, -(1L << 62));
    }

    private static void newObject() {
        int[] counts = {0, 0, 0, 0, 1, 0, 0, 0, 500, 0};
        for (int what = 0; what < 10; what++) due("count(" + what + ")", new DriedOut().count(what), counts[what]);
        for (int what = 0; what < 8; what++) due("told(0, " + what + ")", new DriedOut().told(0, what), BAD);
        for (int what = 0; what < 5; what++) due("gap(0, " + what + ")", new DriedOut().gap(0, what), BAD);
        for (int what = 0; what < 5; what++) due("set(" + what + ", 0, 0)", new DriedOut().set(what, 0, 0), BAD);
        for (int what = 0; what < 3; what++) due("run(1, 0, " + what + ")", new DriedOut().run(1, 0, what), NO);
        due("run(1, 0, 3)", new DriedOut().run(1, 0, 3), 0);
        due("run(60, 0, 4)", new DriedOut().run(60, 0, 4), 0);
        due("text()", new DriedOut().text(), -100);
        due("force(0)", new DriedOut().force(0), 0);
        due("force(1)", new DriedOut().force(1), BAD);
        due("comes()", new DriedOut().comes(), 0);
        due("lay(1)", new DriedOut().lay(1), 0);
        due("air(1)", new DriedOut().air(1), 1);
        due("tight()", new DriedOut().tight(), 0);
        due("out()", new DriedOut().out(), 0);
        due("sack(0)", new DriedOut().sack(0), NO);
        due("first(1)", new DriedOut().first(1), NONE);
        due("most(0)", new DriedOut().most(0), BAD);
        due("far(0)", new DriedOut().far(0), 999);
        due("nails(0)", new DriedOut().nails(0), 0);
        due("nails(1)", new DriedOut().nails(1), 1);
        due("image()", new DriedOut().image(), 0);
        due("back()", new DriedOut().back(), STATE);
        for (int sheet = 0; sheet < 4; sheet++) due("cell(" + sheet + ", 0, 0)", new DriedOut().cell(sheet, 0, 0), -11);
        due("taken(0, 0)", new DriedOut().taken(0, 0), -11);
        due("plank(0, 10, 0)", new DriedOut().plank(0, 10, 0), 0);
        Boats.planks(new DriedOut(), 10);
        due("another object's PLANKS are not its own", new DriedOut().count(0), 0);
    }

    private static void gapIfThereIsOneAhead() {
        DriedOut x = new DriedOut();
        due("the first", x.plank(0, 10, 2000), 0);
        due("it has no GAP", x.gap(0, 0), BAD);
        due("no GAP is FAST", x.count(2), 0);
        due("no GAP is OPEN", x.count(1), 0);
        due("nothing comes in", x.comes(), 0);
        due("the second", x.plank(0, 10, 70), 1);
        due("its GAP", x.gap(0, 0), 7);
        due("one GAP is FAST", x.count(2), 1);
        due("one GAP is OPEN", x.count(1), 1);
        due("GAP 201 of a first one", new DriedOut().plank(0, 10, 2010), BAD);
    }

    private static void whatIsTaken() {
        DriedOut x = plank(0, 100300, 0);
        due("WET of 100300", x.told(1, 2), 100);
        due("WIDTH of 100300", x.told(1, 1), 300);
        x = plank(0, 10, 0);
        due("WET of 10", x.told(1, 2), 0);
        due("WIDTH of 10", x.told(1, 1), 10);
        x = plank(0, 1010, 0);
        due("WET of 1010", x.told(1, 2), 1);
        due("WIDTH of 1010", x.told(1, 1), 10);
        for (int what : new int[] {100301, 101000, 1009, 1301, 1000, 0, -1, -10, -100300}) noPlank(0, what, 0);
    }

    private static void moreIsTaken() {
        DriedOut x = plank(0, 10, 1239);
        due("GAP of 1239", x.gap(0, 0), 123);
        due("NUMBER of 1239", x.told(1, 7), 9);
        x = plank(0, 10, 0);
        due("GAP of 0", x.gap(0, 0), 0);
        due("NUMBER of 0", x.told(1, 7), 0);
        for (int more : new int[] {2010, -1, -10, -2009}) noPlank(0, 10, more);
    }

    private static void plankIsBadAheadOfFull() {
        DriedOut x = Boats.planks(new DriedOut(), 10);
        int[][] bad = {{-1, 10, 0}, {6, 10, 0}, {0, 9, 0}, {0, 301, 0}, {0, 101010, 0}, {0, -1, 0}, {0, 10, 2010}, {0, 10, -1}};
        for (int[] b : bad) due("plank(" + b[0] + ", " + b[1] + ", " + b[2] + ")", x.plank(b[0], b[1], b[2]), BAD);
        due("plank(0, 10, 0)", x.plank(0, 10, 0), FULL);
        due("count(0)", x.count(0), 10);
    }

    private static void setWhat() {
        DriedOut x = Boats.planks(new DriedOut(), 2);
        for (int what : new int[] {-1, 7, MIN, MAX}) due("set(" + what + ", 0, 0)", x.set(what, 0, 0), BAD);
        due("set(0, 0, 8)", x.set(0, 0, 8), 0);
        due("set(6, 0, 8)", x.set(6, 0, 8), 500);
    }

    private static void setOfPlank() {
        for (int what = 0; what < 2; what++) {
            due("no PLANK: set(" + what + ", 0, 0)", new DriedOut().set(what, 0, 0), BAD);
            DriedOut x = Boats.planks(new DriedOut(), 2);
            for (int of : new int[] {-1, 2, MIN, MAX}) due("set(" + what + ", " + of + ", 0)", x.set(what, of, 0), BAD);
            for (int of = 0; of < 2; of++) due("set(" + what + ", " + of + ", 1)", x.set(what, of, 1), 0);
            DriedOut y = Boats.planks(new DriedOut(), 10);
            due("set(" + what + ", 9, 1)", y.set(what, 9, 1), 0);
            due("set(" + what + ", 10, 1)", y.set(what, 10, 1), BAD);
        }
    }

    private static void setOfGap() {
        for (int what = 2; what < 5; what++) {
            int was = what == 4 ? 1 : 0;
            due("one PLANK: set(" + what + ", 0, 0)", Boats.planks(new DriedOut(), 1).set(what, 0, 0), BAD);
            DriedOut x = Boats.planks(new DriedOut(), 3);
            for (int of : new int[] {-1, 2, MIN, MAX}) due("set(" + what + ", " + of + ", 0)", x.set(what, of, 0), BAD);
            for (int of = 0; of < 2; of++) due("set(" + what + ", " + of + ", 1)", x.set(what, of, 1), was);
            DriedOut y = Boats.planks(new DriedOut(), 10);
            due("set(" + what + ", 8, 1)", y.set(what, 8, 1), was);
            due("set(" + what + ", 9, 1)", y.set(what, 9, 1), BAD);
        }
    }

    private static void setOfNothing() {
        for (int of : new int[] {0, 1, -1, 10, MIN, MAX}) {
            DriedOut x = new DriedOut();
            due("set(5, " + of + ", 3)", x.set(5, of, 3), 0);
            due("SALT", x.count(7), 3);
            due("set(6, " + of + ", 3)", x.set(6, of, 3), 500);
            due("PUMP", x.count(8), 3);
        }
    }

    private static void setWhatItWas() {
        DriedOut x = new DriedOut();
        x.plank(0, 44010, 0);
        x.plank(0, 55010, 660);
        due("WET", x.set(0, 1, 100), 55);
        due("WET, to what it is", x.set(0, 1, 100), 100);
        due("WET, of the other one", x.set(0, 0, 0), 44);
        due("GAP", x.set(2, 0, 200), 66);
        due("GAP, then", x.set(2, 0, 0), 200);
        due("SALT", x.set(5, 0, 9), 0);
        due("SALT, then", x.set(5, 0, 9), 9);
        due("PUMP", x.set(6, 0, 0), 500);
        due("PUMP, then", x.set(6, 0, 0), 0);
    }

    private static void toldBounds() {
        DriedOut x = new DriedOut();
        x.plank(1, 20100, 0);
        x.plank(5, 100300, 8);
        x.set(1, 1, 99);
        // 15 by 2: 7, and 1; soak 2, half: 1; twice 18, and 5
        int[] want = {5, 300, 100, 8, 1, 41, 99, 8};
        for (int what = 0; what < 8; what++) due("told(1, " + what + ")", x.told(1, what), want[what]);
        for (int what : new int[] {-1, 8, MIN, MAX}) due("told(1, " + what + ")", x.told(1, what), BAD);
        for (int plank : new int[] {-1, 2, MIN, MAX}) {
            for (int what = 0; what < 8; what++) due("told(" + plank + ", " + what + ")", x.told(plank, what), BAD);
        }
        Boats.planks(x, 8);
        due("told(9, 1)", x.told(9, 1), 10);
        due("told(10, 1)", x.told(10, 1), BAD);
    }

    private static void gapBounds() {
        DriedOut x = new DriedOut();
        x.plank(0, 200, 0);
        x.plank(0, 200, 40);
        x.plank(0, 100200, 30);
        x.set(3, 1, 6);
        x.set(4, 1, 0);
        // 0 and 10 by 2: 5; 3 less 5 less 6
        int[] want = {3, 6, 0, 0, 8};
        for (int what = 0; what < 5; what++) due("gap(1, " + what + ")", x.gap(1, what), want[what]);
        due("gap(0, 3)", x.gap(0, 3), 4);
        for (int what : new int[] {-1, 5, MIN, MAX}) due("gap(1, " + what + ")", x.gap(1, what), BAD);
        for (int gap : new int[] {-1, 2, MIN, MAX}) {
            for (int what = 0; what < 5; what++) due("gap(" + gap + ", " + what + ")", x.gap(gap, what), BAD);
        }
    }
}
