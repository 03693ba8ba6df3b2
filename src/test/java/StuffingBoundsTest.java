/** The boundary cases of SACK, STUFF FIRST, MOST, HOW FAR, NO GAP, AN IMAGE and count: promises 15 to 22. */
public final class StuffingBoundsTest {
    private static final Sentences S = new Sentences();
    private static final int BAD = -2, STATE = -3, NONE = -1;
    private static final long NO = -4611686018427387904L;
    private static final int MIN = Integer.MIN_VALUE, MAX = Integer.MAX_VALUE;

    public static void main(String[] args) {
        S.of("SACK: .. v (0 .. 100) more STUFFING. NO: v", StuffingBoundsTest::sackOf);
        S.of("SACK: .. NO: .. no GAP", StuffingBoundsTest::sackWithoutGap);
        S.of("SACK: the GAP that is most OPEN now (of like ones the first)", StuffingBoundsTest::sackGoesWhere);
        S.of("SACK: v more STUFFING (100 at most)", StuffingBoundsTest::sackAtMost);
        S.of("SACK, HOW FAR, NO GAP: COMES IN now", StuffingBoundsTest::asItIsNow);
        S.of("STUFF FIRST: .. v (1 .. 100) more. BAD", StuffingBoundsTest::firstOf);
        S.of("STUFF FIRST: .. NONE: there is no GAP", StuffingBoundsTest::firstWithoutGap);
        S.of("STUFF FIRST: its STUFFING v more (100 at most)", StuffingBoundsTest::firstAtMost);
        S.of("fewest fastenings would go in a RUN of 60 DAYS", StuffingBoundsTest::fewestGo);
        S.of("of like ones least COMES IN behind them", StuffingBoundsTest::leastComesIn);
        S.of("then the first", StuffingBoundsTest::thenTheFirst);
        S.of("MOST: the greatest STUFFING (0 .. 100)", StuffingBoundsTest::mostAtTheEnds);
        S.of("no more fastenings go in a RUN of 60 DAYS than with STUFFING 0 in it", StuffingBoundsTest::noMoreGo);
        S.of("most: BAD", StuffingBoundsTest::mostIsBad);
        S.of("HOW FAR, with a HOLD (0 .. 9999). BAD", StuffingBoundsTest::holds);
        S.of("HOLD by (COMES IN by 24, rounded up), cut", StuffingBoundsTest::roundedUp);
        S.of("999 at most", StuffingBoundsTest::farAtMost);
        S.of("999 also, if nothing COMES IN", StuffingBoundsTest::nothingComesIn);
        S.of("NO GAP: .. part 0 above, 1 below the line. NO: part", StuffingBoundsTest::parts);
        S.of("10 times all NAILS by COMES IN (lowest terms", StuffingBoundsTest::lowestTerms);
        S.of("0 by 1, if nothing COMES IN", StuffingBoundsTest::zeroByOne);
        S.of("AN IMAGE keeps ..", StuffingBoundsTest::imageKeeps);
        S.of("PLANKS that came since stay", StuffingBoundsTest::cameSince);
        S.of("AN IMAGE is kept: the DAY", StuffingBoundsTest::imageOfTheDay);
        S.of("back: .. STATE: there is none", StuffingBoundsTest::noImage);
        S.of("All that it keeps is as in THE IMAGE: the DAY", StuffingBoundsTest::backTo);
        S.of("count: How many: 0 PLANKS, .. 9 all NAILS. BAD", StuffingBoundsTest::countOf);
        S.of("count: with nothing there, and with all there can be", StuffingBoundsTest::countAtTheEnds);
        S.end();
    }

    private static void due(String call, long got, long want) {
        S.due(call, got, want);
    }

    /** Narrow, dry PLANKS with GAPS of these widths, by a rule. */
    private static DriedOut gaps(String rule, int... wide) {
        DriedOut x = Boats.planks(Boats.ruled(rule), 1);
        for (int w : wide) x.plank(0, 10, 10 * w);
        return x;
    }

    private static void sackOf() {
        DriedOut x = gaps(Boats.STILL, 150);
        for (int v : new int[] {0, 1, 99, 100}) due("sack(" + v + ")", x.sack(v), v);
        for (int v : new int[] {-1, 101, MIN, MAX}) due("sack(" + v + ")", x.sack(v), NO);
        due("STUFFING stays", x.gap(0, 1), 0);
        due("COMES IN stays", x.comes(), 150);
    }

    private static void sackWithoutGap() {
        for (int v : new int[] {0, 1, 100, -1, 101}) {
            due("no PLANK: sack(" + v + ")", new DriedOut().sack(v), NO);
            due("one PLANK: sack(" + v + ")", Boats.planks(new DriedOut(), 1).sack(v), NO);
        }
        due("two PLANKS: sack(100)", Boats.planks(new DriedOut(), 2).sack(100), 0);
    }

    private static void sackGoesWhere() {
        // leak is the NUMBER of the PLANK below: 1, 2, 3, 4
        DriedOut x = Boats.ruled("soak 0;leak old;dries 0;");
        for (int i = 1; i <= 5; i++) x.plank(0, 10, i + 80);
        due("all alike: the first", x.sack(1), 1);
        x.set(2, 3, 9);
        due("the last", x.sack(1), 4);
        x.set(2, 1, 9);
        due("the first of two", x.sack(1), 2);
        x.set(3, 1, 2);
        due("OPEN counts, not how wide", x.sack(1), 4);
        x.set(3, 1, 0);
        x.set(2, 2, 10);
        due("the most of all", x.sack(1), 3);
        x.set(0, 2, 100);
        for (int g = 0; g < 4; g++) x.set(2, g, 0);
        due("none is OPEN", x.sack(1), 0);
        x.set(3, 0, 5);
        due("none is OPEN, one presses", x.sack(100), 0);
        // most OPEN now, not behind a day
        DriedOut y = Boats.ruled("soak 100*(old=1);leak old;dries 0;");
        y.plank(0, 300, 1);
        y.plank(0, 300, 101);
        y.plank(0, 300, 92);
        due("most OPEN now", y.sack(2), 2);
    }

    private static void sackAtMost() {
        DriedOut x = gaps(Boats.STILL, 200);
        int[] stuffing = {0, 1, 50, 99, 100}, by100 = {100, 99, 50, 1, 0}, by50 = {50, 50, 50, 1, 0};
        for (int i = 0; i < stuffing.length; i++) {
            x.set(3, 0, stuffing[i]);
            due("sack(100) at " + stuffing[i], x.sack(100), by100[i]);
            due("sack(50) at " + stuffing[i], x.sack(50), by50[i]);
        }
        due("no more than it is OPEN", gaps(Boats.STILL, 7).sack(8), 7);
        due("as much as it is OPEN", gaps(Boats.STILL, 7).sack(7), 7);
        due("the most that can be", gaps("soak 0;leak 999;dries 0;", 200, 200).sack(100), 99900);
    }

    private static void asItIsNow() {
        // OPEN 50 now, by 1 a day less; what was foreseen ahead of a call, or stood behind a day, does not matter
        for (int ahead = 0; ahead < 4; ahead++) {
            DriedOut x = Boats.ruled("soak 10;leak 2+day;dries 0;");
            x.plank(0, 200, 0);
            x.plank(0, 200, 500);
            x.set(1, 0, 2);
            if (ahead == 1) x.run(60, 0, 4);
            if (ahead == 2) x.first(9);
            if (ahead == 3) x.tight();
            String behind = ", ahead " + ahead;
            if (ahead % 2 == 0) due("sack(3)" + behind, x.sack(3), 6);
            if (ahead % 2 == 1) due("nails(0)" + behind, x.nails(0), 1);
            if (ahead % 2 == 1) x.set(0, 0, 90);
            // 120 by 24: 5; with WET 90 GROWS 9, by 2: 4 less; 112 by 24: 5
            due("far(50)" + behind, x.far(50), 10);
            due("nails(1)" + behind, x.nails(1), ahead % 2 == 0 ? 6 : 28);
            x.set(2, 0, 100);
            due("far(50), wider" + behind, x.far(50), 50 / (ahead % 2 == 0 ? 10 : 9));
            x.set(2, 0, 2);
            due("sack(3), less wide" + behind, x.sack(3), ahead % 2 == 0 ? 4 : 0);
        }
        DriedOut y = Boats.ruled(Boats.STILL);
        y.plank(0, 200, 0);
        y.plank(0, 200, 500);
        due("far(100), 50 COMES IN", y.far(100), 33);
        for (int i = 0; i < 2; i++) y.set(0, i, 100);
        due("far(100), 40 COMES IN", y.far(100), 50);
        y.set(1, 0, 1);
        due("nails(1), 50 COMES IN", y.nails(1), 5);
        for (int i = 0; i < 2; i++) y.set(0, i, 0);
        due("nails(1), 60 COMES IN", y.nails(1), 6);
        for (int i = 0; i < 2; i++) y.set(0, i, 100);
        due("sack(45), 40 of 50 COME IN by the GAP", y.sack(45), 40);
    }

    private static void firstOf() {
        DriedOut x = gaps(Boats.STILL, 0, 150);
        for (int v : new int[] {1, 99, 100}) due("first(" + v + ")", x.first(v), 1);
        for (int v : new int[] {0, 101, -1, MIN, MAX}) due("first(" + v + ")", x.first(v), BAD);
        due("STUFFING stays", x.gap(0, 1) + x.gap(1, 1), 0);
        due("FAST stays", x.count(2), 2);
        due("DAY stays", x.count(3), 0);
    }

    private static void firstWithoutGap() {
        for (int n = 0; n < 2; n++) {
            DriedOut x = Boats.planks(new DriedOut(), n);
            for (int v : new int[] {1, 100}) due(n + " PLANKS: first(" + v + ")", x.first(v), NONE);
            for (int v : new int[] {0, 101, -1, MIN, MAX}) due(n + " PLANKS: first(" + v + ")", x.first(v), BAD);
        }
        due("2 PLANKS: first(1)", Boats.planks(new DriedOut(), 2).first(1), 0);
    }

    private static void firstAtMost() {
        DriedOut x = gaps(Boats.STILL, 200, 200);
        x.set(3, 0, 95);
        due("5 and 5: the first", x.first(5), 0);
        due("5 (100 at most) and 6", x.first(6), 1);
        x.set(3, 1, 95);
        due("5 and 5, of both 100 at most", x.first(6), 0);
        x.set(3, 0, 100);
        due("none and 1", x.first(1), 1);
        x.set(3, 1, 100);
        due("none and none", x.first(100), 0);
        // 92 wide, stuffed 100: PRESS 8; more than 100 would press too much
        DriedOut y = gaps(Boats.STILL, 92, 0);
        y.set(3, 0, 100);
        due("100 stay 100, and are borne", y.first(11), 0);
    }

    private static void fewestGo() {
        // PLANKS of NUMBER 0, 1, 2, 3 BEAR 10, 11, 12, 13; GAPS are 0 wide, and 20 comes in by the last
        DriedOut x = Boats.ruled(Boats.STILL);
        for (int i = 0; i < 4; i++) x.plank(0, 10, i);
        x.plank(0, 10, 204);
        due("10: none goes by any, least COMES IN by the last", x.first(10), 3);
        x.set(2, 3, 0);
        due("10: none goes by any", x.first(10), 0);
        due("11: not by GAP 1", x.first(11), 1);
        due("12: not by GAP 2", x.first(12), 2);
        due("13: not by GAP 3", x.first(13), 3);
        due("14: one goes by each", x.first(14), 0);
        x.set(4, 3, 0);
        due("14: GAP 3's is gone already", x.first(14), 3);
        // fewest go ahead of least COMES IN: stuffing GAP 1 shuts out more, but one goes by it
        DriedOut y = Boats.ruled("soak 0;leak old;dries 0;");
        y.plank(0, 10, 1);
        y.plank(4, 10, 209);
        y.plank(0, 10, 10);
        due("1 by the first: 1; by the second: 9", y.first(1), 1);
        due("2: the second's goes", y.first(2), 0);
        // one goes anyhow: it is the same by each
        DriedOut z = gaps(Boats.STILL, 0, 5, 9);
        z.set(3, 0, 11);
        due("one goes by each, COMES IN tells", z.first(5), 1);
        due("by 6, too: 5 and 6", z.first(6), 2);
        // only behind the 60th day it presses too much: WET 100, GROWS 10
        DriedOut w = Boats.ruled("soak 1;leak 1;dries 0;");
        w.plank(0, 40200, 0);
        w.plank(0, 40200, 0);
        w.plank(0, 40200, 9);
        w.set(2, 1, 1);
        due("PRESS 10 behind 60 DAYS is borne", w.run(60, 0, 3), 0);
        due("PRESS 11 behind 60 DAYS isn't", w.first(1), 1);
        for (int i = 0; i < 3; i++) w.set(0, i, 39);
        w.set(2, 1, 0);
        due("PRESS 11 behind 61 DAYS does not matter", w.first(1), 0);
    }

    private static void leastComesIn() {
        DriedOut x = gaps(Boats.STILL, 4, 5, 6);
        due("3 by each: the first", x.first(3), 0);
        due("4 by each: the first", x.first(4), 0);
        due("4, 5, 5", x.first(5), 1);
        due("4, 5, 6", x.first(6), 2);
        // behind the 60 days, not now: GAP 0 has closed by itself
        DriedOut y = Boats.ruled("soak 5;leak 1;dries 0;");
        y.plank(0, 200, 0);
        y.plank(0, 200, 90);
        y.plank(0, 200, 150);
        due("behind 60 DAYS", y.first(2), 1);
        // by the DAY behind them
        DriedOut z = Boats.ruled("soak 0;leak (day<60)*(9-old)+(59<day)*old;dries 0;");
        z.plank(0, 10, 1);
        z.plank(0, 10, 208);
        z.plank(0, 10, 200);
        due("by leak as it is behind 60 DAYS", z.first(3), 1);
        // 300 in 60 days by GAP 0, all in the first of them; 1 a day by GAP 1
        DriedOut w = Boats.ruled("soak 0;leak (old=1)*(day<60)*99+(old=2);dries 0;");
        w.plank(0, 10, 1);
        w.plank(0, 10, 12);
        w.plank(0, 10, 10);
        due("what CAME IN in all does not matter", w.first(1), 1);
    }

    private static void thenTheFirst() {
        due("all alike, OPEN", gaps(Boats.STILL, 9, 9, 9).first(3), 0);
        due("all alike, none OPEN", gaps(Boats.STILL, 0, 0, 0).first(3), 0);
        due("all alike, all go", gaps(Boats.STILL, 0, 0, 0).first(50), 0);
        due("the last two alike", gaps(Boats.STILL, 1, 9, 9).first(3), 1);
        DriedOut ten = gaps(Boats.STILL, 1, 1, 1, 1, 1, 1, 1, 1, 2);
        due("nine alike", ten.first(1), 0);
        due("the last of nine", ten.first(2), 8);
    }

    private static void mostAtTheEnds() {
        // 10 are borne
        int[] wide = {0, 1, 88, 89, 90, 91, 200}, want = {10, 11, 98, 99, 100, 100, 100};
        for (int i = 0; i < wide.length; i++) due("most(0), wide " + wide[i], gaps(Boats.STILL, wide[i]).most(0), want[i]);
        DriedOut soft = Boats.ruled(Boats.STILL);
        soft.plank(4, 10, 0);
        soft.plank(4, 10, 0);
        due("SOFT, wide 0", soft.most(0), 0);
        soft.set(2, 0, 1);
        due("SOFT, wide 1", soft.most(0), 1);
        soft.set(2, 0, 100);
        due("SOFT, wide 100", soft.most(0), 100);
        soft.set(2, 0, 99);
        due("SOFT, wide 99", soft.most(0), 99);
    }

    private static void noMoreGo() {
        DriedOut x = gaps(Boats.STILL, 0, 0);
        due("none go with 0", x.most(0), 10);
        x.set(3, 0, 77);
        due("STUFFING that is in it does not matter", x.most(0), 10);
        due("it stays", x.gap(0, 1), 77);
        due("another one's that goes does not matter", x.most(1), 10);
        x.set(4, 0, 0);
        due("gone already", x.most(0), 100);
        // with 0 in it, it goes: PRESS of 10 against 0
        DriedOut y = Boats.ruled("soak 100;leak 1;dries 0;");
        y.plank(4, 200, 0);
        y.plank(4, 200, 0);
        due("it goes with 0, too", y.most(0), 100);
        y.set(2, 0, 9);
        due("it goes with 0 by 1", y.most(0), 100);
        y.set(2, 0, 10);
        due("it doesn't with 0", y.most(0), 0);
        // behind the 60th day they GROW 10, behind the 59th 9: 1 more would be borne then
        DriedOut z = Boats.ruled("soak 1;leak 1;dries 0;");
        z.plank(0, 40200, 0);
        z.plank(0, 40200, 0);
        due("in 60 DAYS", z.most(0), 0);
        z.set(0, 0, 39);
        z.set(0, 1, 39);
        due("in 60 DAYS, WET 99", z.most(0), 1);
    }

    private static void mostIsBad() {
        for (int n = 0; n < 2; n++) due(n + " PLANKS: most(0)", Boats.planks(new DriedOut(), n).most(0), BAD);
        DriedOut x = Boats.planks(Boats.ruled(Boats.STILL), 10);
        due("most(0)", x.most(0), 10);
        due("most(8)", x.most(8), 10);
        for (int gap : new int[] {-1, 9, 10, MIN, MAX}) due("most(" + gap + ")", x.most(gap), BAD);
    }

    private static void holds() {
        DriedOut x = gaps(Boats.STILL, 200);
        // 200 by 24: 9
        int[] hold = {0, 8, 9, 9999}, want = {0, 0, 1, 999};
        for (int i = 0; i < hold.length; i++) due("far(" + hold[i] + ")", x.far(hold[i]), want[i]);
        for (int h : new int[] {-1, 10000, MIN, MAX}) {
            due("far(" + h + ")", x.far(h), BAD);
            due("no PLANK: far(" + h + ")", new DriedOut().far(h), BAD);
        }
    }

    private static void roundedUp() {
        int[] comes = {1, 23, 24, 25, 47, 48, 49, 72, 73}, anHour = {1, 1, 1, 2, 2, 2, 3, 3, 4};
        for (int i = 0; i < comes.length; i++) due("far(100), COMES IN " + comes[i], gaps(Boats.STILL, comes[i]).far(100), 100 / anHour[i]);
        DriedOut x = gaps(Boats.STILL, 49);
        int[] hold = {2, 3, 5, 6, 8, 9}, want = {0, 1, 1, 2, 2, 3};
        for (int i = 0; i < hold.length; i++) due("far(" + hold[i] + "), 3 an hour", x.far(hold[i]), want[i]);
        DriedOut most = gaps("soak 0;leak 999;dries 0;", 200, 200, 200);
        // 599400 by 24: 24975
        due("far(9999), 24975 an hour", most.far(9999), 0);
    }

    private static void farAtMost() {
        DriedOut x = gaps(Boats.STILL, 1);
        int[] hold = {0, 1, 998, 999, 1000, 1001, 9999}, want = {0, 1, 998, 999, 999, 999, 999};
        for (int i = 0; i < hold.length; i++) due("far(" + hold[i] + "), 1 an hour", x.far(hold[i]), want[i]);
        DriedOut y = gaps(Boats.STILL, 48);
        int[] hold2 = {1997, 1998, 1999, 2000, 9999}, want2 = {998, 999, 999, 999, 999};
        for (int i = 0; i < hold2.length; i++) due("far(" + hold2[i] + "), 2 an hour", y.far(hold2[i]), want2[i]);
    }

    private static void nothingComesIn() {
        for (int h : new int[] {0, 1, 999, 9999}) {
            due("no PLANK: far(" + h + ")", new DriedOut().far(h), 999);
            due("no GAP: far(" + h + ")", Boats.planks(new DriedOut(), 1).far(h), 999);
            due("none OPEN: far(" + h + ")", gaps(Boats.STILL, 0).far(h), 999);
            due("leak 0: far(" + h + ")", gaps("soak 0;leak 0;dries 0;", 200).far(h), 999);
        }
        DriedOut nailed = Boats.planks(new DriedOut(), 1);
        nailed.set(1, 0, 1);
        due("one NAIL: far(0)", nailed.far(0), 0);
    }

    private static void parts() {
        DriedOut x = gaps(Boats.STILL, 10);
        x.set(1, 0, 1);
        due("nails(0)", x.nails(0), 1);
        due("nails(1)", x.nails(1), 2);
        for (int part : new int[] {-1, 2, MIN, MAX}) {
            due("nails(" + part + ")", x.nails(part), NO);
            due("no PLANK: nails(" + part + ")", new DriedOut().nails(part), NO);
        }
    }

    private static void lowestTerms() {
        // NAILS, OPEN; above, below
        int[][] cases = {{0, 7, 0, 1}, {1, 0, 1, 1}, {99, 0, 1, 1}, {1, 1, 10, 11}, {1, 10, 1, 2}, {1, 5, 2, 3}, {3, 20, 3, 5},
            {9, 9, 10, 11}, {7, 130, 7, 20}, {99, 200, 99, 119}, {2, 199, 20, 219}};
        for (int[] c : cases) {
            DriedOut x = gaps(Boats.STILL, c[1]);
            x.set(1, 0, c[0]);
            due("above, NAILS " + c[0] + ", OPEN " + c[1], x.nails(0), c[2]);
            due("below, NAILS " + c[0] + ", OPEN " + c[1], x.nails(1), c[3]);
        }
        DriedOut all = Boats.planks(Boats.ruled("soak 0;leak 999;dries 0;"), 10);
        for (int i = 0; i < 10; i++) all.set(1, i, 99);
        for (int g = 0; g < 9; g++) all.set(2, g, 200);
        // 9900 by 1808100: 11 by 2009
        due("above, all there can be", all.nails(0), 11);
        due("below, all there can be", all.nails(1), 2009);
    }

    private static void zeroByOne() {
        DriedOut[] dry = {new DriedOut(), Boats.planks(new DriedOut(), 1), gaps(Boats.STILL, 0), gaps("soak 0;leak 0;dries 0;", 200)};
        for (DriedOut x : dry) {
            due("nails(0)", x.nails(0), 0);
            due("nails(1)", x.nails(1), 1);
        }
        DriedOut pressed = gaps(Boats.STILL, 0);
        pressed.set(3, 0, 100);
        due("a GAP that presses: nails(0)", pressed.nails(0), 0);
        due("a GAP that presses: nails(1)", pressed.nails(1), 1);
    }

    private static void imageKeeps() {
        DriedOut x = gaps(Boats.STILL, 0, 200);
        int[][] kept = {{0, 0, 100}, {0, 2, 0}, {1, 0, 99}, {1, 2, 0}, {2, 0, 200}, {2, 1, 0}, {3, 0, 100}, {3, 1, 0},
            {4, 0, 0}, {4, 1, 1}, {5, 0, 9}, {6, 0, 9999}};
        int[][] since = {{0, 0, 0}, {0, 2, 100}, {1, 0, 0}, {1, 2, 99}, {2, 0, 0}, {2, 1, 200}, {3, 0, 0}, {3, 1, 100},
            {4, 0, 1}, {4, 1, 0}, {5, 0, 0}, {6, 0, 0}};
        for (int[] k : kept) x.set(k[0], k[1], k[2]);
        x.force(0);
        due("image()", x.image(), 0);
        for (int[] s : since) x.set(s[0], s[1], s[2]);
        x.force(1);
        x.air(1);
        due("back()", x.back(), 0);
        // each is set to what it is: what it was is answered
        for (int[] k : kept) due("set(" + k[0] + ", " + k[1] + ", " + k[2] + ") what it was", x.set(k[0], k[1], k[2]), k[2]);
        due("THE RULE", x.count(6), 0);
        due("THE DAY", x.count(3), 0);
    }

    private static void cameSince() {
        DriedOut none = new DriedOut();
        due("image() of no PLANK", none.image(), 0);
        none.plank(5, 50100, 0);
        none.plank(4, 60100, 77);
        none.set(1, 1, 9);
        none.set(3, 0, 2);
        none.set(4, 0, 0);
        due("back()", none.back(), 0);
        due("PLANKS stay", none.count(0), 2);
        due("WET as it was", none.told(1, 2), 60);
        due("NAILS as they were", none.told(1, 6), 9);
        due("GAP as it was", none.gap(0, 0), 7);
        due("STUFFING as it was", none.gap(0, 1), 2);
        due("FAST as it was", none.gap(0, 2), 0);
        // one PLANK in THE IMAGE: the GAP above it came since
        DriedOut one = Boats.planks(new DriedOut(), 1);
        one.image();
        one.plank(0, 33010, 80);
        one.set(0, 0, 44);
        one.set(3, 0, 3);
        one.set(4, 0, 0);
        one.back();
        due("the PLANK it keeps", one.told(0, 2), 0);
        due("the PLANK that came since", one.told(1, 2), 33);
        due("the GAP that came since", one.gap(0, 0), 8);
        due("its STUFFING", one.gap(0, 1), 3);
        due("its fastening", one.gap(0, 2), 0);
        DriedOut ten = Boats.planks(new DriedOut(), 9);
        ten.image();
        ten.plank(0, 12010, 60);
        for (int g = 0; g < 9; g++) ten.set(2, g, 50);
        for (int i = 0; i < 10; i++) ten.set(0, i, 90);
        ten.back();
        due("ten: PLANKS", ten.count(0), 10);
        due("ten: the last that it keeps", ten.told(8, 2), 0);
        due("ten: the one that came since", ten.told(9, 2), 90);
        due("ten: the last GAP that it keeps", ten.gap(7, 0), 0);
        due("ten: the GAP that came since", ten.gap(8, 0), 50);
    }

    private static void imageOfTheDay() {
        DriedOut x = new DriedOut();
        due("DAY 0", x.image(), 0);
        Boats.aired(x, 9999);
        due("DAY 9999", x.image(), 9999);
        due("back to the later one", x.back(), 9999);
        due("count(3)", x.count(3), 9999);
    }

    private static void noImage() {
        DriedOut x = Boats.planks(new DriedOut(), 2);
        x.set(0, 0, 9);
        x.air(3);
        due("back()", x.back(), STATE);
        due("DAY", x.count(3), 3);
        due("back() again", x.back(), STATE);
        x.image();
        due("back() then", x.back(), 3);
        due("back() of another object", new DriedOut().back(), STATE);
    }

    private static void backTo() {
        DriedOut x = Boats.aired(Boats.planks(Boats.ruled(Boats.STILL), 2), 60);
        x.set(0, 1, 50);
        due("image()", x.image(), 60);
        due("back() at once", x.back(), 60);
        x.lay(60);
        x.set(0, 1, 70);
        due("back()", x.back(), 60);
        due("WET", x.told(1, 2), 50);
        x.set(0, 1, 80);
        due("back() once more", x.back(), 60);
        due("WET once more", x.told(1, 2), 50);
        x.air(1);
        x.set(0, 1, 20);
        due("a later image()", x.image(), 61);
        x.set(0, 1, 30);
        due("back() to it", x.back(), 61);
        due("WET of it", x.told(1, 2), 20);
        // TEXTS, THE TAPE and SHEETS are not kept: they stay
        DriedOut y = new DriedOut();
        y.image();
        Boats.text(y, Boats.STILL);
        Boats.feed(y, "soak");
        y.sheet(2, 2, 5);
        y.back();
        due("TEXTS", y.count(4), 2);
        due("THE TAPE", y.count(5), 4);
        due("a SHEET", y.cell(2, 4, 1), 1);
        due("a TEXT that came since", y.force(1), 0);
        due("THE RULE then goes back, too", y.back(), 0);
        due("count(6)", y.count(6), 0);
    }

    private static void countOf() {
        DriedOut x = gaps(Boats.STILL, 3, 0, 4);
        x.set(4, 2, 0);
        x.set(1, 0, 5);
        x.set(1, 3, 6);
        x.set(5, 0, 7);
        x.set(6, 0, 8);
        x.air(9);
        x.feed(2, 0);
        int[] want = {4, 2, 2, 9, 2, 2, 1, 7, 8, 11};
        for (int what = 0; what < 10; what++) due("count(" + what + ")", x.count(what), want[what]);
        for (int what : new int[] {-1, 10, MIN, MAX}) due("count(" + what + ")", x.count(what), BAD);
    }

    private static void countAtTheEnds() {
        int[] none = {0, 0, 0, 0, 1, 0, 0, 0, 500, 0};
        for (int what = 0; what < 10; what++) due("new: count(" + what + ")", new DriedOut().count(what), none[what]);
        DriedOut one = Boats.planks(new DriedOut(), 1);
        for (int what = 1; what < 3; what++) due("one PLANK: count(" + what + ")", one.count(what), 0);
        DriedOut x = Boats.planks(new DriedOut(), 10);
        for (int i = 0; i < 10; i++) x.set(1, i, 99);
        for (int g = 0; g < 9; g++) x.set(2, g, 1);
        for (int i = 1; i < 6; i++) Boats.text(x, Boats.STILL);
        Boats.feed(x, " ".repeat(160));
        Boats.aired(x, 9999);
        x.force(5);
        x.set(5, 0, 9);
        x.set(6, 0, 9999);
        int[] all = {10, 9, 9, 9999, 6, 160, 5, 9, 9999, 990};
        for (int what = 0; what < 10; what++) due("all: count(" + what + ")", x.count(what), all[what]);
        for (int g = 0; g < 9; g++) x.set(3, g, 1);
        due("none is OPEN: count(1)", x.count(1), 0);
        for (int g = 0; g < 9; g++) x.set(4, g, 0);
        due("none is FAST: count(2)", x.count(2), 0);
    }
}
