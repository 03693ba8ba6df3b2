/** The boundary cases of LEFT, OPEN, PRESS, COMES IN, of DAYS and RUNS, and of promises 9 to 14. */
public final class DayBoundsTest {
    private static final Sentences S = new Sentences();
    private static final int BAD = -2, NONE = -1;
    private static final long NO = -4611686018427387904L;
    private static final int MIN = Integer.MIN_VALUE, MAX = Integer.MAX_VALUE;

    public static void main(String[] args) {
        S.of("what both its PLANKS GROW, together, by 2 (cut)", DayBoundsTest::together);
        S.of("OPEN: LEFT, 0 at least. PRESS: 0 less LEFT, 0 at least", DayBoundsTest::openAndPress);
        S.of("COMES IN a day: OPEN times leak of all GAPS, and 10 for each of all NAILS", DayBoundsTest::comesIn);
        S.of("WET of each PLANK is more by what it TAKES UP (.. 100 at most)", DayBoundsTest::wetAtMost);
        S.of("all by what was so as the day began", DayBoundsTest::asTheDayBegan);
        S.of("whose PRESS is more than the lesser one of what both its PLANKS BEAR", DayBoundsTest::pressesTooMuch);
        S.of("each GAP that is FAST", DayBoundsTest::onlyIfFast);
        S.of("is wider by a quarter (cut) of its PRESS", DayBoundsTest::widerByAQuarter);
        S.of("Then each GAP", DayBoundsTest::behindTheGrowth);
        S.of("A DAY IN THE AIR: WET of each PLANK is less by dries (.. 0 at least)", DayBoundsTest::wetAtLeast);
        S.of("A DAY IN THE AIR: .. all as the day began", DayBoundsTest::driesAsTheDayBegan);
        S.of("A DAY IN THE AIR: no fastening goes", DayBoundsTest::airLeavesFastenings);
        S.of("Then the DAY is 1 more (9999 at most), in water", DayBoundsTest::lastDayInWater);
        S.of("Then the DAY is 1 more (9999 at most), in the air", DayBoundsTest::lastDayInTheAir);
        S.of("RUN .. DAY 9999 at most", DayBoundsTest::lastDayInARun);
        S.of("RUN of n DAYS (1 .. 60)", DayBoundsTest::runDays);
        S.of("RUN .. from now, nothing changed", DayBoundsTest::runChangesNothing);
        S.of("what CAME IN in all (each day as it ends)", DayBoundsTest::cameIn);
        S.of("how many fastenings went", DayBoundsTest::fasteningsWent);
        S.of("RUN: OPEN, PRESS of a GAP, WET of a PLANK then", DayBoundsTest::runThen);
        S.of("run: OPEN (what 0), PRESS (1) of a GAP, WET (2) of a PLANK .. NO: none such", DayBoundsTest::runOfWhat);
        S.of("of does not matter with 3, 4", DayBoundsTest::runOfNothing);
        S.of("LAID: it is so. BAD", DayBoundsTest::laid);
        S.of("AIRED: n DAYS IN THE AIR are so. BAD (n 1 .. 60)", DayBoundsTest::aired);
        S.of("TIGHT: the first of DAYS 0 (now) .. 60", DayBoundsTest::tightDays);
        S.of("TIGHT: .. behind which all GAPS are not OPEN; NONE", DayBoundsTest::tightGaps);
        S.of("OUT: the first of them behind which COMES IN is no more than PUMP", DayBoundsTest::outByPump);
        S.of("OUT: DAYS 0 (now) .. 60; NONE", DayBoundsTest::outDays);
        S.of("comes: COMES IN as it is now", DayBoundsTest::comesNow);
        S.end();
    }

    private static void due(String call, long got, long want) {
        S.due(call, got, want);
    }

    /** Two PLANKS 200 wide, of these WETS; by the rule a 10th of its WET is what each GROWS. */
    private static DriedOut two(String rule, int wetBelow, int wetAbove, int gap) {
        DriedOut x = Boats.ruled(rule);
        x.plank(0, 1000 * wetBelow + 200, 0);
        x.plank(0, 1000 * wetAbove + 200, 10 * gap);
        return x;
    }

    private static void together() {
        int[][] cases = {{0, 0, 20}, {10, 0, 20}, {0, 10, 20}, {10, 10, 19}, {20, 10, 19}, {10, 20, 19}, {30, 10, 18}, {100, 90, 11}, {100, 100, 10}};
        for (int[] c : cases) due("OPEN by WETS " + c[0] + ", " + c[1], two(Boats.STILL, c[0], c[1], 20).gap(0, 3), c[2]);
        // 1 and 1 (of 1.9 each) are 2, by 2: 1
        due("OPEN by WETS 19, 19", two(Boats.STILL, 19, 19, 20).gap(0, 3), 19);
    }

    private static void openAndPress() {
        // they grow 5 in all; wide 10: LEFT is 5 less STUFFING
        int[] stuffing = {0, 4, 5, 6, 100}, open = {5, 1, 0, 0, 0}, press = {0, 0, 0, 1, 95};
        for (int i = 0; i < stuffing.length; i++) {
            DriedOut x = two(Boats.STILL, 50, 50, 10);
            x.set(3, 0, stuffing[i]);
            due("OPEN, STUFFING " + stuffing[i], x.gap(0, 3), open[i]);
            due("PRESS, STUFFING " + stuffing[i], x.gap(0, 4), press[i]);
            due("GAPS that are OPEN, STUFFING " + stuffing[i], x.count(1), open[i] > 0 ? 1 : 0);
            due("COMES IN, STUFFING " + stuffing[i], x.comes(), open[i]);
        }
        DriedOut most = two(Boats.STILL, 0, 0, 200);
        due("most OPEN", most.gap(0, 3), 200);
        due("its PRESS", most.gap(0, 4), 0);
        // 18 and 18 (LARCH, NUMBER 9) by 2, and 100
        DriedOut least = new DriedOut();
        least.plank(1, 100300, 9);
        least.plank(1, 100300, 9);
        least.set(3, 0, 100);
        due("greatest PRESS", least.gap(0, 4), 118);
        due("its OPEN", least.gap(0, 3), 0);
    }

    private static void comesIn() {
        due("no PLANK", new DriedOut().comes(), 0);
        DriedOut x = Boats.ruled(Boats.STILL);
        Boats.planks(x, 1);
        due("no GAP", x.comes(), 0);
        x.set(1, 0, 1);
        due("one NAIL", x.comes(), 10);
        x.set(1, 0, 99);
        due("99 NAILS", x.comes(), 990);
        Boats.planks(x, 2);
        x.set(1, 2, 1);
        due("NAILS of all", x.comes(), 1000);
        x.set(2, 0, 3);
        x.set(2, 1, 4);
        due("OPEN of all", x.comes(), 1007);
        x.set(3, 1, 100);
        due("a GAP that presses is not less than 0", x.comes(), 1003);
        DriedOut most = Boats.planks(Boats.ruled("soak 0;leak 999;dries 0;"), 10);
        for (int i = 0; i < 10; i++) most.set(1, i, 99);
        for (int g = 0; g < 9; g++) most.set(2, g, 200);
        due("as much as can be", most.comes(), 9 * 200 * 999 + 10 * 990);
        due("of 60 DAYS", most.run(60, 0, 4), 60 * (9 * 200 * 999 + 10 * 990));
    }

    private static void wetAtMost() {
        int[] wets = {0, 89, 90, 91, 99, 100}, want = {10, 99, 100, 100, 100, 100};
        for (int i = 0; i < wets.length; i++) {
            DriedOut x = two("soak 10;leak 0;dries 0;", wets[i], 0, 0);
            due("run: WET " + wets[i] + " behind a day", x.run(1, 0, 2), want[i]);
            due("lay(1)", x.lay(1), 0);
            due("lay: WET " + wets[i] + " behind a day", x.told(0, 2), want[i]);
        }
        DriedOut soft = Boats.ruled("soak 100;leak 0;dries 0;");
        soft.plank(4, 100010, 0);
        due("200 more than 100", soft.run(60, 0, 2), 100);
        DriedOut none = Boats.ruled("soak 0;leak 0;dries 9;");
        none.plank(0, 10, 0);
        due("0 more than 0", none.run(60, 0, 2), 0);
    }

    private static void asTheDayBegan() {
        // a wetter one beside it makes 20 more: only the first is beside a wetter one as the day begins
        DriedOut x = Boats.ruled("soak near*20;leak 0;dries 0;");
        x.plank(0, 10010, 0);
        x.plank(0, 20010, 0);
        x.plank(0, 20010, 0);
        int[] want = {30, 20, 20};
        for (int i = 0; i < 3; i++) due("WET of " + i + " behind a day", x.run(1, i, 2), want[i]);
        // and from the other side
        DriedOut y = Boats.ruled("soak near*20;leak 0;dries 0;");
        y.plank(0, 20010, 0);
        y.plank(0, 20010, 0);
        y.plank(0, 10010, 0);
        y.lay(1);
        for (int i = 0; i < 3; i++) due("WET of " + i + " behind a day, laid", y.told(i, 2), want[2 - i]);
        // the second day begins with 30, 20, 20
        due("WET of 1 behind two days", x.run(2, 1, 2), 40);
        DriedOut z = Boats.ruled("soak day*10+1;leak 0;dries 0;");
        Boats.planks(z, 1);
        due("by the DAY as it began", z.run(1, 0, 2), 1);
        due("by both DAYS as they began", z.run(2, 0, 2), 12);
    }

    /** How many fastenings go in a day: PLANKS of these KINDS and NUMBERS, dry, with this STUFFING. */
    private static long goes(int kindBelow, int numberBelow, int kindAbove, int numberAbove, int stuffing) {
        DriedOut x = Boats.ruled(Boats.STILL);
        x.plank(kindBelow, 10, numberBelow);
        x.plank(kindAbove, 10, numberAbove);
        x.set(3, 0, stuffing);
        long went = x.run(1, 0, 3);
        due("lay(1)", x.lay(1), went);
        due("FAST behind it", x.gap(0, 2), 1 - went);
        return went;
    }

    private static void pressesTooMuch() {
        due("PRESS 10, both BEAR 10", goes(0, 0, 0, 0, 10), 0);
        due("PRESS 11, both BEAR 10", goes(0, 0, 0, 0, 11), 1);
        due("PRESS 10, the one below BEARS 10", goes(0, 0, 0, 9, 10), 0);
        due("PRESS 11, the one below BEARS 10", goes(0, 0, 0, 9, 11), 1);
        due("PRESS 10, the one above BEARS 10", goes(0, 9, 0, 0, 10), 0);
        due("PRESS 11, the one above BEARS 10", goes(0, 9, 0, 0, 11), 1);
        due("PRESS 0, SOFT BEARS 0", goes(4, 0, 2, 9, 0), 0);
        due("PRESS 1, SOFT BEARS 0", goes(2, 9, 4, 0, 1), 1);
        // NEW, NUMBER 9: 43; both grow 1
        due("PRESS 43, NEW BEARS 43", goes(5, 9, 5, 9, 42), 0);
        due("PRESS 44, NEW BEARS 43", goes(5, 9, 5, 9, 43), 1);
        DriedOut open = Boats.planks(Boats.ruled(Boats.STILL), 2);
        open.set(2, 0, 200);
        due("OPEN 200", open.run(60, 0, 3), 0);
    }

    private static void onlyIfFast() {
        DriedOut x = Boats.planks(Boats.ruled(Boats.STILL), 2);
        x.set(3, 0, 100);
        x.set(4, 0, 0);
        due("one that is gone can't go", x.run(60, 0, 3), 0);
        due("its PRESS", x.run(60, 0, 1), 100);
        due("lay(60)", x.lay(60), 0);
        due("it isn't wider", x.gap(0, 0), 0);
        due("it is gone", x.gap(0, 2), 0);
        x.set(4, 0, 1);
        due("one that is FAST goes once", x.run(60, 0, 3), 1);
        due("lay(2)", x.lay(2), 1);
        due("wider by a quarter, once", x.gap(0, 0), 25);
        due("it is gone then", x.gap(0, 2), 0);
        due("it can't go again", x.lay(60), 0);
        due("nor be wider again", x.gap(0, 0), 25);
        x.set(4, 0, 1);
        due("FAST once more, it goes once more", x.lay(60), 1);
        due("wider by a quarter of 75", x.gap(0, 0), 25 + 18);
    }

    private static void widerByAQuarter() {
        int[] presses = {1, 3, 4, 7, 8, 99, 100}, wider = {0, 0, 1, 1, 2, 24, 25};
        for (int i = 0; i < presses.length; i++) {
            DriedOut x = Boats.ruled(Boats.STILL);
            x.plank(4, 10, 0);
            x.plank(4, 10, 0);
            x.set(3, 0, presses[i]);
            due("run: PRESS " + presses[i] + " behind a day", x.run(1, 0, 1), presses[i] - wider[i]);
            due("lay(1)", x.lay(1), 1);
            due("GAP by PRESS " + presses[i], x.gap(0, 0), wider[i]);
            due("PRESS then", x.gap(0, 4), presses[i] - wider[i]);
        }
    }

    private static void behindTheGrowth() {
        // they GROW 5 now and 10 in the first day: the PRESS is 10, then 15; they BEAR 14
        DriedOut x = Boats.ruled("soak 50;leak 0;dries 0;");
        x.plank(0, 50200, 4);
        x.plank(0, 50200, 4);
        x.set(3, 0, 5);
        due("PRESS now", x.gap(0, 4), 10);
        due("it goes in the first day", x.lay(1), 1);
        due("wider by a quarter of 15", x.gap(0, 0), 3);
        due("nothing goes ahead of a day", Boats.planks(new DriedOut(), 2).gap(0, 2), 1);
    }

    private static void wetAtLeast() {
        int[] wets = {0, 9, 10, 11, 100}, want = {0, 0, 0, 1, 90};
        for (int i = 0; i < wets.length; i++) {
            DriedOut x = two("soak 0;leak 0;dries 10;", 0, wets[i], 0);
            x.air(1);
            due("WET " + wets[i] + " behind a day", x.told(1, 2), want[i]);
            x.air(60);
            due("WET " + wets[i] + " behind 61 days", x.told(1, 2), 0);
        }
    }

    private static void driesAsTheDayBegan() {
        // 20, and 20 for each wetter one: 50 - 20, 40 - 40
        DriedOut x = two("soak 0;leak 0;dries 20+near*20;", 50, 40, 0);
        x.air(1);
        due("WET of 0", x.told(0, 2), 30);
        due("WET of 1", x.told(1, 2), 0);
        DriedOut y = two("soak 0;leak 0;dries 20+near*20;", 40, 50, 0);
        y.air(1);
        due("WET of 0, the other way", y.told(0, 2), 0);
        due("WET of 1, the other way", y.told(1, 2), 30);
        DriedOut z = two("soak 0;leak 0;dries day*5;", 50, 50, 0);
        z.air(1);
        due("by the DAY as it began", z.told(0, 2), 50);
        z.air(2);
        due("0, 5 and 10", z.told(0, 2), 35);
    }

    private static void airLeavesFastenings() {
        DriedOut x = Boats.planks(Boats.ruled(Boats.STILL), 2);
        x.set(3, 0, 100);
        x.air(60);
        due("FAST", x.gap(0, 2), 1);
        due("GAP", x.gap(0, 0), 0);
    }

    private static void lastDayInWater() {
        DriedOut x = Boats.aired(Boats.planks(new DriedOut(), 1), 9940);
        x.lay(58);
        due("9998", x.count(3), 9998);
        x.lay(1);
        due("9999", x.count(3), 9999);
        x.lay(1);
        due("one more", x.count(3), 9999);
        x.lay(60);
        due("60 more", x.count(3), 9999);
        DriedOut y = Boats.aired(new DriedOut(), 9939);
        y.lay(60);
        due("9939 and 60", y.count(3), 9999);
        DriedOut z = Boats.aired(new DriedOut(), 9940);
        z.lay(60);
        due("9940 and 60", z.count(3), 9999);
    }

    private static void lastDayInTheAir() {
        DriedOut x = Boats.aired(Boats.planks(new DriedOut(), 1), 9998);
        due("air(1)", x.air(1), 9999);
        due("air(1), one more", x.air(1), 9999);
        due("air(60)", x.air(60), 9999);
        due("9939 and 60", Boats.aired(new DriedOut(), 9939).air(60), 9999);
        due("9940 and 60", Boats.aired(new DriedOut(), 9940).air(60), 9999);
        // dries goes on by the last DAY
        DriedOut y = Boats.aired(Boats.ruled("soak 0;leak 0;dries day=9999;"), 9997);
        y.plank(0, 50010, 0);
        y.air(2);
        due("not dried yet", y.told(0, 2), 50);
        y.air(3);
        due("dried three times", y.told(0, 2), 47);
    }

    private static void lastDayInARun() {
        // 1 wetter in a DAY that begins as the last; 1 comes in of one that ends as the last
        DriedOut x = Boats.aired(Boats.ruled("soak day=9999;leak day=9999;dries 0;"), 9997);
        Boats.planks(x, 2);
        x.set(2, 0, 1);
        long[] wet = {0, 0, 1, 2}, came = {0, 1, 2, 3};
        for (int n = 1; n <= 4; n++) {
            due("WET behind " + n, x.run(n, 0, 2), wet[n - 1]);
            due("CAME IN in " + n, x.run(n, 0, 4), came[n - 1]);
        }
        due("WET behind 60", x.run(60, 0, 2), 58);
        due("CAME IN in 60", x.run(60, 0, 4), 59);
        due("the DAY", x.count(3), 9997);
        x.set(6, 0, 0);
        due("OUT, nothing comes in now", x.out(), 0);
        x.air(2);
        due("OUT, 1 comes in for good", x.out(), NONE);
    }

    private static void runDays() {
        DriedOut x = two("soak 1;leak 1;dries 0;", 0, 0, 1);
        for (int n : new int[] {1, 2, 59, 60}) due("run(" + n + ", 0, 2)", x.run(n, 0, 2), n);
        for (int n : new int[] {0, 61, -1, MIN, MAX}) {
            for (int what = 0; what < 5; what++) due("run(" + n + ", 0, " + what + ")", x.run(n, 0, what), NO);
        }
    }

    private static void runChangesNothing() {
        DriedOut x = Boats.planks(Boats.ruled("soak 9;leak 1;dries 0;"), 2);
        x.set(3, 0, 40);
        due("run(60, 0, 3)", x.run(60, 0, 3), 1);
        due("run(60, 1, 2)", x.run(60, 1, 2), 100);
        due("WET", x.told(0, 2), 0);
        due("WET of the other one", x.told(1, 2), 0);
        due("FAST", x.gap(0, 2), 1);
        due("GAP", x.gap(0, 0), 0);
        due("DAY", x.count(3), 0);
        due("the same once more", x.run(60, 0, 3), 1);
    }

    private static void cameIn() {
        // open 10, 9, 8 .. behind each day; nothing for now
        DriedOut x = two("soak 10;leak 1;dries 0;", 0, 0, 10);
        long[] want = {9, 17, 24, 30, 35, 39, 42, 44, 45, 45};
        for (int n = 1; n <= 10; n++) due("CAME IN in " + n, x.run(n, 0, 4), want[n - 1]);
        due("CAME IN in 60", x.run(60, 0, 4), 45);
        x.set(1, 1, 1);
        due("and NAILS, each day", x.run(60, 0, 4), 45 + 600);
        // the DAY is 1 more as a day ends
        DriedOut y = two("soak 0;leak day;dries 0;", 0, 0, 1);
        due("by the DAY as it ends, 1", y.run(1, 0, 4), 1);
        due("by the DAY as it ends, 60", y.run(60, 0, 4), 60 * 61 / 2);
    }

    private static void fasteningsWent() {
        DriedOut x = Boats.planks(Boats.ruled(Boats.STILL), 10);
        due("none", x.run(60, 0, 3), 0);
        for (int g = 0; g < 9; g++) x.set(3, g, 11);
        due("all", x.run(1, 0, 3), 9);
        due("all, no more by 60 days", x.run(60, 0, 3), 9);
        x.set(3, 8, 10);
        due("all but the last", x.run(60, 0, 3), 8);
        x.set(3, 0, 10);
        due("all but the first and the last", x.run(60, 0, 3), 7);
        // day by day: the one presses too much behind the first day, the other behind the second
        DriedOut y = Boats.ruled("soak 20;leak 0;dries 0;");
        for (int i = 0; i < 3; i++) y.plank(0, 200, 0);
        y.set(3, 0, 9);
        y.set(3, 1, 8);
        due("in 1 day", y.run(1, 0, 3), 1);
        due("in 2 days", y.run(2, 0, 3), 2);
    }

    private static void runThen() {
        // WET 10 a day more; GAP 0 is 4 wide and OPEN 4 - n; GAP 1 presses n + 3, and goes when that is 11
        DriedOut x = Boats.ruled("soak 10;leak 100;dries 0;");
        for (int i = 0; i < 3; i++) x.plank(0, 200, i == 1 ? 40 : 0);
        x.set(3, 1, 3);
        int[] open = {3, 2, 1, 0, 0, 0, 0, 0, 0, 0}, press = {0, 0, 0, 0, 1, 2, 3, 4, 5, 6}, pressAbove = {4, 5, 6, 7, 8, 9, 10, 9, 10, 11};
        for (int n = 1; n <= 10; n++) {
            due("OPEN behind " + n, x.run(n, 0, 0), open[n - 1]);
            due("PRESS behind " + n, x.run(n, 0, 1), press[n - 1]);
            due("OPEN above behind " + n, x.run(n, 1, 0), 0);
            due("PRESS above behind " + n, x.run(n, 1, 1), pressAbove[n - 1]);
            for (int i = 0; i < 3; i++) due("WET of " + i + " behind " + n, x.run(n, i, 2), 10 * n);
        }
        due("gone behind 7", x.run(7, 0, 3), 0);
        due("gone behind 8", x.run(8, 0, 3), 1);
        due("gone behind 60", x.run(60, 0, 3), 1);
        due("WET behind 60", x.run(60, 2, 2), 100);
        due("PRESS behind 60", x.run(60, 0, 1), 6);
        due("PRESS above behind 60", x.run(60, 1, 1), 11);
    }

    private static void runOfWhat() {
        DriedOut none = new DriedOut();
        for (int what = 0; what < 3; what++) due("no PLANK: run(1, 0, " + what + ")", none.run(1, 0, what), NO);
        DriedOut one = Boats.planks(new DriedOut(), 1);
        due("no GAP: run(1, 0, 0)", one.run(1, 0, 0), NO);
        due("no GAP: run(1, 0, 1)", one.run(1, 0, 1), NO);
        due("run(1, 0, 2)", one.run(1, 0, 2), 6);
        DriedOut x = Boats.planks(Boats.ruled(Boats.STILL), 10);
        x.set(2, 8, 7);
        x.set(0, 9, 77);
        due("OPEN of the last GAP", x.run(1, 8, 0), 7);
        due("PRESS of the last GAP", x.run(1, 8, 1), 0);
        due("WET of the last PLANK", x.run(1, 9, 2), 77);
        for (int of : new int[] {9, -1, 10, MIN, MAX}) {
            due("run(1, " + of + ", 0)", x.run(1, of, 0), NO);
            due("run(1, " + of + ", 1)", x.run(1, of, 1), NO);
        }
        for (int of : new int[] {10, -1, MIN, MAX}) due("run(1, " + of + ", 2)", x.run(1, of, 2), NO);
        for (int what : new int[] {-1, 5, MIN, MAX}) due("run(1, 0, " + what + ")", x.run(1, 0, what), NO);
    }

    private static void runOfNothing() {
        DriedOut x = Boats.planks(Boats.ruled(Boats.STILL), 2);
        x.set(1, 0, 1);
        x.set(3, 0, 11);
        for (int of : new int[] {0, 1, 2, -1, 10, MIN, MAX}) {
            due("run(2, " + of + ", 3)", x.run(2, of, 3), 1);
            due("run(2, " + of + ", 4)", x.run(2, of, 4), 20);
            due("no PLANK: run(2, " + of + ", 3)", new DriedOut().run(2, of, 3), 0);
            due("no PLANK: run(2, " + of + ", 4)", new DriedOut().run(2, of, 4), 0);
        }
    }

    private static void laid() {
        for (int n : new int[] {0, 61, -1, MIN, MAX}) {
            DriedOut x = two("soak 1;leak 1;dries 0;", 0, 0, 1);
            due("lay(" + n + ")", x.lay(n), BAD);
            due("WET behind it", x.told(0, 2), 0);
            due("DAY behind it", x.count(3), 0);
        }
        for (int n : new int[] {1, 60}) {
            DriedOut x = two("soak 1;leak 1;dries 0;", 0, 0, 1);
            due("lay(" + n + ")", x.lay(n), 0);
            due("WET behind it", x.told(0, 2), n);
            due("DAY behind it", x.count(3), n);
            DriedOut none = new DriedOut();
            due("no PLANK: lay(" + n + ")", none.lay(n), 0);
            due("no PLANK: DAY behind it", none.count(3), n);
        }
        DriedOut all = Boats.planks(Boats.ruled(Boats.STILL), 10);
        for (int g = 0; g < 9; g++) all.set(3, g, 11);
        due("lay(1) of ten", all.lay(1), 9);
        due("GAPS that are FAST", all.count(2), 0);
        due("lay(1) once more", all.lay(1), 0);
    }

    private static void aired() {
        for (int n : new int[] {0, 61, -1, MIN, MAX}) {
            DriedOut x = two("soak 0;leak 1;dries 1;", 100, 100, 1);
            due("air(" + n + ")", x.air(n), BAD);
            due("WET behind it", x.told(0, 2), 100);
            due("DAY behind it", x.count(3), 0);
        }
        for (int n : new int[] {1, 60}) {
            DriedOut x = two("soak 0;leak 1;dries 1;", 100, 100, 1);
            due("air(" + n + ")", x.air(n), n);
            due("WET behind it", x.told(0, 2), 100 - n);
            due("no PLANK: air(" + n + ")", new DriedOut().air(n), n);
        }
    }

    private static void tightDays() {
        due("no PLANK", new DriedOut().tight(), 0);
        due("no GAP", Boats.planks(new DriedOut(), 1).tight(), 0);
        due("wide 0", two("soak 1;leak 0;dries 0;", 0, 0, 0).tight(), 0);
        // WET 10 is 1 wide
        due("WET 10, wide 1", two("soak 1;leak 0;dries 0;", 10, 10, 1).tight(), 0);
        due("WET 9, wide 1", two("soak 1;leak 0;dries 0;", 9, 9, 1).tight(), 1);
        due("WET 41, wide 10", two("soak 1;leak 0;dries 0;", 41, 41, 10).tight(), 59);
        due("WET 40, wide 10", two("soak 1;leak 0;dries 0;", 40, 40, 10).tight(), 60);
        due("WET 39, wide 10", two("soak 1;leak 0;dries 0;", 39, 39, 10).tight(), NONE);
        due("wide 11, never", two("soak 100;leak 0;dries 0;", 0, 0, 11).tight(), NONE);
    }

    private static void tightGaps() {
        DriedOut x = Boats.ruled("soak 10;leak 0;dries 0;");
        int[] gaps = {0, 3, 7, 5};
        for (int gap : gaps) x.plank(0, 200, 10 * gap);
        due("the last to close, in the middle", x.tight(), 7);
        x.set(2, 0, 9);
        due("the first", x.tight(), 9);
        x.set(2, 2, 10);
        due("the last", x.tight(), 10);
        x.set(2, 2, 11);
        due("one that stays OPEN", x.tight(), NONE);
        x.set(3, 2, 1);
        due("by STUFFING", x.tight(), 10);
        x.set(1, 0, 99);
        due("NAILS are no GAP", x.tight(), 10);
        due("DAY", x.count(3), 0);
        due("WET", x.told(0, 2), 0);
    }

    private static void outByPump() {
        DriedOut x = two(Boats.STILL, 0, 0, 50);
        x.set(6, 0, 49);
        due("50 and PUMP 49", x.out(), NONE);
        x.set(6, 0, 50);
        due("50 and PUMP 50", x.out(), 0);
        x.set(6, 0, 51);
        due("50 and PUMP 51", x.out(), 0);
        x.set(2, 0, 0);
        x.set(6, 0, 0);
        due("0 and PUMP 0", x.out(), 0);
        x.set(1, 0, 1);
        due("10 and PUMP 0", x.out(), NONE);
        DriedOut most = two("soak 0;leak 999;dries 0;", 0, 0, 10);
        most.set(6, 0, 9999);
        due("9990 and PUMP 9999", most.out(), 0);
        most.set(1, 0, 1);
        due("10000 and PUMP 9999", most.out(), NONE);
        due("500 at first: 500 comes in", two("soak 0;leak 5;dries 0;", 0, 0, 100).out(), 0);
        DriedOut more = two(Boats.STILL, 0, 0, 1);
        more.set(1, 0, 25);
        more.set(1, 1, 25);
        due("500 at first: 501 comes in", more.out(), NONE);
    }

    private static void outDays() {
        int[] wets = {100, 99, 41, 40, 39}, want = {0, 1, 59, 60, NONE};
        for (int i = 0; i < wets.length; i++) {
            DriedOut x = two("soak 1;leak 3;dries 0;", wets[i], wets[i], 11);
            x.set(6, 0, 3);
            due("OUT from WET " + wets[i], x.out(), want[i]);
            due("DAY", x.count(3), 0);
        }
        DriedOut none = new DriedOut();
        none.set(6, 0, 0);
        due("no PLANK", none.out(), 0);
        // COMES IN behind a day is by the DAY then
        DriedOut y = two("soak 0;leak 60-day;dries 0;", 0, 0, 1);
        y.set(6, 0, 0);
        due("on the 60th day, by the DAY", y.out(), 60);
        DriedOut z = two("soak 0;leak 61-day;dries 0;", 0, 0, 1);
        z.set(6, 0, 0);
        due("on the 61st day, by the DAY", z.out(), NONE);
    }

    private static void comesNow() {
        DriedOut x = two("soak 10;leak 1+day;dries 0;", 0, 0, 10);
        due("now", x.comes(), 10);
        x.run(60, 0, 4);
        x.tight();
        due("not as it was foreseen", x.comes(), 10);
        x.lay(1);
        due("behind a day", x.comes(), 9 * 2);
    }
}
