/** The boundary cases of THE TAPE, of TEXTS, THE RULE and their bounds, and of promises 6 to 8. */
public final class TapeBoundsTest {
    private static final Sentences S = new Sentences();
    private static final int BAD = -2, FULL = -4;
    private static final int MIN = Integer.MIN_VALUE, MAX = Integer.MAX_VALUE;

    public static void main(String[] args) {
        S.of("THE TAPE (160 bytes at most)", TapeBoundsTest::tapeIsFull);
        S.of("The n lowest bytes of a number, the lowest first, come behind THE TAPE", TapeBoundsTest::lowestFirst);
        S.of("feed: BAD: n is not 1 .. 8", TapeBoundsTest::feedIsBad);
        S.of("feed: BAD .. FULL", TapeBoundsTest::feedIsBadAheadOfFull);
        S.of("THE TAPE, which is empty then (by a FAULT, too)", TapeBoundsTest::tapeIsEmptyThen);
        S.of("is a TEXT: its number", TapeBoundsTest::numberOfText);
        S.of("There are 6 TEXTS at most, TEXT 0 with them", TapeBoundsTest::sixTexts);
        S.of("FULL (ahead of all): no TEXT more has room (THE TAPE stays)", TapeBoundsTest::fullAheadOfAll);
        S.of("force: A TEXT is THE RULE: which was. BAD", TapeBoundsTest::forceBounds);
        S.of("wet: its WET; dry: 100 less that", TapeBoundsTest::wetAndDry);
        S.of("near: how many PLANKS side by side with it (2 at most) are wetter", TapeBoundsTest::near);
        S.of("old: its NUMBER", TapeBoundsTest::old);
        S.of("day: the DAY", TapeBoundsTest::day);
        S.of("salt: SALT", TapeBoundsTest::salt);
        S.of("soak, dries: 0 .. 100, else the bound", TapeBoundsTest::soakBounds);
        S.of("dries: 0 .. 100, else the bound", TapeBoundsTest::driesBounds);
        S.of("leak (0 .. 999, else the bound", TapeBoundsTest::leakBounds);
        S.of("of the PLANK below a GAP", TapeBoundsTest::leakOfThePlankBelow);
        S.of("TEXT 0, at first THE RULE: soak 2 + near * 3 + ( 50 < dry ) * 4", TapeBoundsTest::firstSoak);
        S.of("TEXT 0: leak 2 + salt", TapeBoundsTest::firstLeak);
        S.of("TEXT 0: dries 1 + ( 50 < wet ) * 2", TapeBoundsTest::firstDries);
        S.end();
    }

    private static void due(String call, long got, long want) {
        S.due(call, got, want);
    }

    private static DriedOut blanks(int n) {
        DriedOut x = new DriedOut();
        Boats.feed(x, " ".repeat(n));
        return x;
    }

    private static void tapeIsFull() {
        DriedOut x = new DriedOut();
        for (int i = 1; i <= 20; i++) due("feed(8, ..), " + i, x.feed(8, 0x2020202020202020L), 8 * i);
        due("feed(1, ..) behind 160", x.feed(1, 32), FULL);
        due("feed(8, ..) behind 160", x.feed(8, 32), FULL);
        due("count(5)", x.count(5), 160);
        for (int n = 1; n <= 8; n++) {
            DriedOut fits = blanks(160 - n), doesnt = blanks(161 - n);
            due("feed(" + n + ", ..) behind " + (160 - n), fits.feed(n, 0), 160);
            due("feed(" + n + ", ..) behind " + (161 - n), doesnt.feed(n, 0), FULL);
            due("count(5) behind it", doesnt.count(5), 161 - n);
        }
        // a part of 8 that has no room is not taken: the text behind it begins at 153 still
        DriedOut y = blanks(153);
        y.feed(8, -1);
        due("text() behind FULL", y.text(), -100 - 153);
        due("text() of 160 blanks", blanks(160).text(), -100 - 160);
        String whole = "soak 1;leak 1;dries 1;";
        due("a TEXT at the end of 160", Boats.text(new DriedOut(), " ".repeat(160 - whole.length()) + whole), 1);
        due("a TEXT at the start of 160", Boats.text(new DriedOut(), whole + " ".repeat(160 - whole.length())), 1);
        due("one less", Boats.text(new DriedOut(), " ".repeat(159 - whole.length()) + whole), 1);
        due("a FAULT at the last of 160", Boats.text(new DriedOut(), whole + " ".repeat(159 - whole.length()) + "x"), -259);
        due("too early at 160", Boats.text(new DriedOut(), " ".repeat(161 - whole.length()) + whole.substring(0, 21)), -260);
        due("160 bytes, glued", Boats.text(new DriedOut(), "soak1" + "+1".repeat(70) + ";leak1;dries1; "), 1);
        due("160 bytes, all of them TOKENS", Boats.text(new DriedOut(), "soak1" + "+1".repeat(70) + ";leak1;dries1;;"), -259);
    }

    private static void lowestFirst() {
        DriedOut x = new DriedOut();
        // of "soak" in 4 of 5 bytes the fifth, a Z, is left
        due("feed(4, ..)", x.feed(4, 0x5a6b616f73L), 4);
        due("feed(1, ..) of a 1 below 0x5a31", x.feed(1, 0x5a31L), 5);
        due("feed(8, ..) of \";leak 1;\"", x.feed(8, 0x3b31206b61656c3bL), 13);
        due("feed(8, ..) of \"dries 1;\"", x.feed(8, 0x3b31207365697264L), 21);
        due("text()", x.text(), 1);
        // the highest byte of 8 is 0x80, the lowest of 1 is 0xff
        DriedOut y = new DriedOut();
        y.feed(8, 0x8020202020202020L);
        due("text() of 7 blanks and a 0x80", y.text(), -107);
        y.feed(1, -1L);
        due("text() of 0xff", y.text(), -100);
        y.feed(8, 0x20202020202020ffL);
        due("text() of 0xff and 7 blanks", y.text(), -100);
        y.feed(7, 0x5a20202020202020L);
        due("count(5) of 7", y.count(5), 7);
        due("text() of 7 blanks", y.text(), -107);
    }

    private static void feedIsBad() {
        DriedOut x = new DriedOut();
        for (int n : new int[] {0, 9, -1, -8, 16, MIN, MAX}) due("feed(" + n + ", 32)", x.feed(n, 32), BAD);
        due("count(5)", x.count(5), 0);
        due("feed(1, 32)", x.feed(1, 32), 1);
        due("feed(8, 32)", x.feed(8, 32), 9);
    }

    private static void feedIsBadAheadOfFull() {
        DriedOut x = blanks(160);
        for (int n : new int[] {0, 9, -1, MIN, MAX}) due("feed(" + n + ", 32)", x.feed(n, 32), BAD);
        due("feed(1, 32)", x.feed(1, 32), FULL);
        DriedOut y = blanks(155);
        due("feed(9, 32)", y.feed(9, 32), BAD);
        due("feed(6, 32)", y.feed(6, 32), FULL);
        due("feed(0, 32)", y.feed(0, 32), BAD);
    }

    private static void tapeIsEmptyThen() {
        DriedOut x = new DriedOut();
        due("an empty TAPE ends too early", x.text(), -100);
        due("text()", Boats.text(x, Boats.STILL), 1);
        due("count(5) behind it", x.count(5), 0);
        due("text() with nothing come since", x.text(), -100);
        due("text() of a FAULT", Boats.text(x, "soak 1;leak 1;dries 1"), -121);
        due("count(5) behind a FAULT", x.count(5), 0);
        // if the FAULT's bytes were there still, this one would make a TEXT of them
        due("text() of what was wanting", Boats.text(x, ";"), -100);
        due("text() of 160 bytes behind it", Boats.text(x, Boats.STILL + " ".repeat(160 - Boats.STILL.length())), 2);
    }

    private static void numberOfText() {
        DriedOut x = new DriedOut();
        due("the first FAULT", Boats.text(x, "x"), -100);
        due("the first one", Boats.text(x, Boats.STILL), 1);
        due("another FAULT", Boats.text(x, " x"), -101);
        due("the next", Boats.text(x, Boats.STILL), 2);
        due("count(4)", x.count(4), 3);
        due("it is not THE RULE yet", x.count(6), 0);
    }

    private static void sixTexts() {
        DriedOut x = new DriedOut();
        due("count(4) at first", x.count(4), 1);
        for (int i = 1; i < 6; i++) {
            due("text()", Boats.text(x, "soak " + i + "1;leak 1;dries 1;"), i);
            due("count(4)", x.count(4), i + 1);
        }
        due("a seventh", Boats.text(x, "soak 61;leak 1;dries 1;"), FULL);
        due("count(4)", x.count(4), 6);
        x.plank(0, 10, 0);
        due("TEXT 0 TAKES UP", x.told(0, 4), 6);
        for (int i = 1; i < 6; i++) {
            due("force(" + i + ")", x.force(i), i - 1);
            due("TEXT " + i + " TAKES UP", x.told(0, 4), 10 * i + 1);
        }
        due("force(6)", x.force(6), BAD);
    }

    private static void fullAheadOfAll() {
        DriedOut x = new DriedOut();
        for (int i = 1; i < 6; i++) Boats.text(x, Boats.STILL);
        due("an empty TAPE", x.text(), FULL);
        due("a FAULT", Boats.text(x, "soak )"), FULL);
        due("THE TAPE stays", x.count(5), 6);
        due("it goes on", x.feed(2, 0x2020), 8);
        due("again", x.text(), FULL);
        due("THE TAPE stays, again", x.count(5), 8);
        Boats.feed(x, " ".repeat(152));
        due("a full TAPE", x.text(), FULL);
        due("feed(1, 0)", x.feed(1, 0), FULL);
        due("count(5)", x.count(5), 160);
    }

    private static void forceBounds() {
        DriedOut x = new DriedOut();
        for (int text : new int[] {1, -1, 6, MIN, MAX}) due("force(" + text + ")", x.force(text), BAD);
        due("force(0)", x.force(0), 0);
        Boats.text(x, Boats.STILL);
        due("force(1)", x.force(1), 0);
        due("force(1) again", x.force(1), 1);
        for (int text : new int[] {2, -1, 6, MIN, MAX}) due("force(" + text + ")", x.force(text), BAD);
        due("count(6)", x.count(6), 1);
        due("force(0)", x.force(0), 1);
        for (int i = 2; i < 6; i++) Boats.text(x, Boats.STILL);
        due("force(5)", x.force(5), 0);
        due("force(6)", x.force(6), BAD);
        due("count(6) then", x.count(6), 5);
    }

    private static void wetAndDry() {
        DriedOut wet = Boats.ruled("soak wet;leak 0;dries 0;"), dry = Boats.ruled("soak dry;leak 0;dries 0;");
        wet.plank(0, 10, 0);
        dry.plank(0, 10, 0);
        for (int w : new int[] {0, 1, 50, 99, 100}) {
            wet.set(0, 0, w);
            dry.set(0, 0, w);
            due("wet of " + w, wet.told(0, 4), w);
            due("dry of " + w, dry.told(0, 4), 100 - w);
        }
    }

    private static void near() {
        DriedOut x = Boats.ruled("soak near;leak 0;dries 0;");
        x.plank(0, 50010, 0);
        due("no other PLANK", x.told(0, 4), 0);
        x.plank(0, 51010, 0);
        due("the one above is wetter", x.told(0, 4), 1);
        due("the one below is not", x.told(1, 4), 0);
        x.set(0, 1, 50);
        due("as wet: the one above", x.told(0, 4), 0);
        due("as wet: the one below", x.told(1, 4), 0);
        x.set(0, 1, 49);
        due("less wet: the one above", x.told(0, 4), 0);
        due("the one below is wetter", x.told(1, 4), 1);
        x.plank(0, 50010, 0);
        due("both are wetter", x.told(1, 4), 2);
        x.plank(0, 100010, 0);
        due("one that is not side by side does not count", x.told(1, 4), 2);
        due("nor ahead", x.told(0, 4), 0);
        x.set(0, 1, 0);
        x.set(0, 0, 100);
        due("0 beside 100 and 50", x.told(1, 4), 2);
        DriedOut y = Boats.ruled("soak near;leak 0;dries 0;");
        for (int i = 0; i < 10; i++) y.plank(0, 1000 * (i % 2) + 10, 0);
        for (int i = 0; i < 10; i++) due("near of " + i, y.told(i, 4), i == 0 ? 1 : i % 2 == 0 ? 2 : 0);
    }

    private static void old() {
        DriedOut x = Boats.ruled("soak old;leak 0;dries 0;");
        for (int number = 0; number < 10; number++) {
            x.plank(0, 10, number);
            due("old of " + number, x.told(number, 4), number);
        }
    }

    private static void day() {
        DriedOut x = Boats.ruled("soak day+0;leak (day=9999)*2+(day<9999);dries 0;");
        Boats.planks(x, 2);
        x.set(2, 0, 1);
        due("DAY 0", x.told(0, 4), 0);
        x.air(1);
        due("DAY 1", x.told(0, 4), 1);
        Boats.aired(x, 9998);
        due("DAY 9998", x.comes(), 1);
        x.air(1);
        due("DAY 9999", x.comes(), 2);
        x.air(1);
        due("DAY 9999 still", x.comes(), 2);
    }

    private static void salt() {
        DriedOut x = Boats.ruled("soak salt;leak 0;dries 0;");
        Boats.planks(x, 1);
        for (int v : new int[] {0, 1, 9}) {
            x.set(5, 0, v);
            due("salt of " + v, x.told(0, 4), v);
        }
    }

    private static void soakBounds() {
        String[] e = {"-9999", "-1", "0", "1", "99", "100", "101", "9999", "2147*1000*1000+483*1000+647", "-2147*1000*1000-483*1000-648"};
        int[] want = {0, 0, 0, 1, 99, 100, 100, 100, 100, 0};
        for (int i = 0; i < e.length; i++) due("soak " + e[i], Boats.soak(e[i]), want[i]);
    }

    private static void driesBounds() {
        String[] e = {"-9999", "-1", "0", "1", "99", "100", "101", "9999", "2147*1000*1000+483*1000+647", "-2147*1000*1000-483*1000-648"};
        int[] wet = {100, 100, 100, 99, 1, 0, 0, 0, 0, 100};
        for (int i = 0; i < e.length; i++) {
            DriedOut x = Boats.ruled("soak 0;leak 0;dries " + e[i] + ";");
            x.plank(0, 100010, 0);
            x.air(1);
            due("WET behind dries " + e[i], x.told(0, 2), wet[i]);
        }
    }

    private static void leakBounds() {
        String[] e = {"-9999", "-1", "0", "1", "100", "101", "998", "999", "1000", "9999", "2147*1000*1000+483*1000+647", "-2147*1000*1000-483*1000-648"};
        int[] want = {0, 0, 0, 1, 100, 101, 998, 999, 999, 999, 999, 0};
        for (int i = 0; i < e.length; i++) {
            DriedOut x = Boats.planks(Boats.ruled("soak 0;leak " + e[i] + ";dries 0;"), 2);
            x.set(2, 0, 3);
            due("COMES IN by leak " + e[i], x.comes(), 3 * want[i]);
        }
    }

    private static void leakOfThePlankBelow() {
        DriedOut x = Boats.ruled("soak 0;leak old*10+near;dries 0;");
        x.plank(0, 10, 1);
        x.plank(0, 20010, 12);
        due("of PLANK 0: 10, and 1 is wetter", x.comes(), 11);
        x.plank(0, 10010, 19);
        // of PLANK 1: 20, none is wetter; PLANK 2 (90, and 1 is wetter) has no GAP above it
        due("of PLANKS 0 and 1", x.comes(), 31);
        x.plank(0, 10, 10);
        due("of PLANK 2, too", x.comes(), 31 + 91);
    }

    private static void firstSoak() {
        DriedOut x = new DriedOut();
        x.plank(0, 10, 9);
        int[] wets = {0, 49, 50, 100}, want = {6, 6, 2, 2};
        for (int i = 0; i < wets.length; i++) {
            x.set(0, 0, wets[i]);
            due("TAKES UP at WET " + wets[i], x.told(0, 4), want[i]);
        }
        x.set(0, 0, 50);
        x.plank(0, 51010, 0);
        due("TAKES UP near 1", x.told(0, 4), 5);
        x.plank(0, 50010, 0);
        x.plank(0, 51010, 0);
        due("TAKES UP near 2", x.told(2, 4), 8);
        x.set(0, 2, 49);
        due("TAKES UP near 2, dry 51", x.told(2, 4), 12);
        x.set(5, 0, 9);
        x.air(1);
        for (int i = 1; i < 4; i++) x.set(0, i, i == 2 ? 49 : 51);
        due("SALT and DAY do not matter", x.told(2, 4), 12);
    }

    private static void firstLeak() {
        DriedOut x = Boats.planks(new DriedOut(), 2);
        x.set(2, 0, 1);
        for (int salt = 0; salt < 10; salt++) {
            x.set(5, 0, salt);
            due("COMES IN, SALT " + salt, x.comes(), 2 + salt);
        }
    }

    private static void firstDries() {
        int[] wets = {100, 52, 51, 50, 49, 3, 1, 0}, want = {97, 49, 48, 49, 48, 2, 0, 0};
        for (int i = 0; i < wets.length; i++) {
            DriedOut x = Boats.planks(new DriedOut(), 1);
            x.set(0, 0, wets[i]);
            x.air(1);
            due("WET " + wets[i] + " behind a day in the air", x.told(0, 2), want[i]);
        }
    }
}
