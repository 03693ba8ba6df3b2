/** Each promise, with answers worked out by hand from the document. */
public final class PromisesTest {
    private static final Sentences S = new Sentences();
    private static final int BAD = -2, STATE = -3, FULL = -4, NONE = -1;
    private static final long NO = -4611686018427387904L;
    private static final int MIN = Integer.MIN_VALUE, MAX = Integer.MAX_VALUE;

    public static void main(String[] args) {
        S.of("The public face: its constants", PromisesTest::constants);
        S.of("Promise 1: A new object", PromisesTest::newObject);
        S.of("Promise 2: plank", PromisesTest::plank);
        S.of("Promise 3: set", PromisesTest::set);
        S.of("Promise 4: told, GROWS", PromisesTest::toldGrows);
        S.of("Promise 4: told, TAKES UP", PromisesTest::toldTakesUp);
        S.of("Promise 4: told, BEARS", PromisesTest::toldBears);
        S.of("Promise 4: told", PromisesTest::toldRest);
        S.of("Promise 5: gap", PromisesTest::gap);
        S.of("Promise 6: feed", PromisesTest::feed);
        S.of("Promise 7: text, that stands", PromisesTest::textsThatStand);
        S.of("Promise 7: text, what its E is", PromisesTest::textValues);
        S.of("Promise 7: text, its FAULT", PromisesTest::textFaults);
        S.of("Promise 7: text, 5 that are open", PromisesTest::textDepth);
        S.of("Promise 7: text, FULL", PromisesTest::textFull);
        S.of("Promise 8: force", PromisesTest::force);
        S.of("Promise 9: comes", PromisesTest::comes);
        S.of("Promise 10: run", PromisesTest::run);
        S.of("Promise 10: run, fastenings", PromisesTest::runFastenings);
        S.of("Promise 11: lay", PromisesTest::lay);
        S.of("Promise 12: air", PromisesTest::air);
        S.of("Promises 11 and 12: lay, air, the last DAY", PromisesTest::lastDay);
        S.of("Promise 13: tight", PromisesTest::tight);
        S.of("Promise 14: out", PromisesTest::out);
        S.of("Promise 15: sack", PromisesTest::sack);
        S.of("Promise 16: first", PromisesTest::first);
        S.of("Promise 17: most", PromisesTest::most);
        S.of("Promise 18: far", PromisesTest::far);
        S.of("Promise 19: nails", PromisesTest::nails);
        S.of("Promises 20 and 21: image, back", PromisesTest::imageAndBack);
        S.of("Promise 22: count", PromisesTest::count);
        S.of("Promise 23: sheet", PromisesTest::sheet);
        S.of("Promise 24: cell", PromisesTest::cell);
        S.of("Promise 25: copy", PromisesTest::copy);
        S.of("Promise 26: planks", PromisesTest::planks);
        S.of("Promise 27: taken", PromisesTest::taken);
        S.end();
    }

    private static void due(String call, long got, long want) {
        S.due(call, got, want);
    }

    private static void feed(DriedOut x, String text) {
        Boats.feed(x, text);
    }

    private static int text(DriedOut x, String text) {
        return Boats.text(x, text);
    }

    private static DriedOut rule(DriedOut x, String text) {
        return Boats.rule(x, text);
    }

    private static DriedOut ruled(String text) {
        return Boats.ruled(text);
    }

    private static void constants() {
        due("NONE", DriedOut.NONE, -1);
        due("BAD", DriedOut.BAD, -2);
        due("STATE", DriedOut.STATE, -3);
        due("FULL", DriedOut.FULL, -4);
        due("NO", DriedOut.NO, NO);
    }

    // Promise 1
    private static void newObject() {
        DriedOut x = new DriedOut();
        int[] want = {0, 0, 0, 0, 1, 0, 0, 0, 500, 0};
        for (int i = 0; i < want.length; i++) due("new: count(" + i + ")", x.count(i), want[i]);
        due("new: told(0, 0)", x.told(0, 0), BAD);
        due("new: gap(0, 0)", x.gap(0, 0), BAD);
        due("new: back()", x.back(), STATE);
        for (int i = 0; i < 4; i++) due("new: cell(" + i + ", 0, 0)", x.cell(i, 0, 0), -11);
        new DriedOut().plank(0, 10, 0);
        due("new: another one's planks are not its own", x.count(0), 0);
    }

    // Promise 2
    private static void plank() {
        DriedOut x = new DriedOut();
        int[][] bad = {{-1, 10, 0}, {6, 10, 0}, {MIN, 10, 0}, {MAX, 10, 0}, {0, 9, 0}, {0, 0, 0}, {0, 301, 0}, {0, 999, 0},
            {0, 101010, 0}, {0, 101000, 0}, {0, -990, 0}, {0, -1, 0}, {0, MIN, 0}, {0, MAX, 0},
            {0, 10, 2010}, {0, 10, -1}, {0, 10, MIN}, {0, 10, MAX}, {0, 100301, 0}, {0, 1009, 0}};
        for (int[] b : bad) due("plank(" + b[0] + ", " + b[1] + ", " + b[2] + ")", x.plank(b[0], b[1], b[2]), BAD);
        due("a plank that is BAD doesn't come", x.count(0), 0);
        due("plank(0, 10, 2009)", x.plank(0, 10, 2009), 0);
        due("the first one has no gap", x.gap(0, 0), BAD);
        due("plank(5, 100300, 2009)", x.plank(5, 100300, 2009), 1);
        due("plank(4, 7123, 45)", x.plank(4, 7123, 45), 2);
        int[][] want = {{0, 10, 0, 0, 9}, {5, 300, 100, 0, 9}, {4, 123, 7, 0, 5}};
        int[] asked = {0, 1, 2, 6, 7};
        for (int i = 0; i < 3; i++) {
            for (int k = 0; k < 5; k++) due("told(" + i + ", " + asked[k] + ")", x.told(i, asked[k]), want[i][k]);
        }
        int[][] gaps = {{200, 0, 1}, {4, 0, 1}};
        for (int g = 0; g < 2; g++) {
            for (int k = 0; k < 3; k++) due("gap(" + g + ", " + k + ")", x.gap(g, k), gaps[g][k]);
        }
        for (int i = 3; i < 10; i++) due("plank " + i, x.plank(i % 6, 1010, i), i);
        due("the eleventh", x.plank(0, 10, 0), FULL);
        due("the eleventh, BAD", x.plank(0, 9, 0), BAD);
        due("the eleventh, BAD by kind", x.plank(6, 10, 0), BAD);
        due("the eleventh, BAD by more", x.plank(0, 10, 2010), BAD);
        due("ten", x.count(0), 10);
    }

    // Promise 3
    private static void set() {
        DriedOut x = new DriedOut();
        x.plank(0, 5010, 0);
        for (int what = 2; what < 5; what++) due("no gap: set(" + what + ", 0, 0)", x.set(what, 0, 0), BAD);
        x.plank(0, 6010, 70);
        x.plank(0, 7010, 80);
        int[] most = {100, 99, 200, 100, 1, 9, 9999}, last = {2, 2, 1, 1, 1, 0, 0}, was = {7, 0, 8, 0, 1, 0, 500};
        for (int what = 0; what < 7; what++) {
            String call = "set(" + what + ", ..)";
            due(call + " what it was", x.set(what, last[what], most[what]), was[what]);
            due(call + " what it was then", x.set(what, last[what], 0), most[what]);
            due(call + " too much", x.set(what, last[what], most[what] + 1), BAD);
            due(call + " below 0", x.set(what, last[what], -1), BAD);
            due(call + " far too much", x.set(what, last[what], MAX), BAD);
            due(call + " far below", x.set(what, last[what], MIN), BAD);
            due(call + " of one behind", x.set(what, last[what] + 1, 0), what < 5 ? BAD : 0);
            due(call + " of one below 0", x.set(what, -1, 0), what < 5 ? BAD : 0);
            due(call + " of MIN", x.set(what, MIN, 0), what < 5 ? BAD : 0);
            due(call + " of MAX", x.set(what, MAX, 0), what < 5 ? BAD : 0);
            due(call + " nothing was changed by BAD", x.set(what, last[what], 1), 0);
        }
        due("set(-1, 0, 0)", x.set(-1, 0, 0), BAD);
        due("set(7, 0, 0)", x.set(7, 0, 0), BAD);
        due("told(2, 2)", x.told(2, 2), 1);
        due("told(2, 6)", x.told(2, 6), 1);
        due("gap(1, 0)", x.gap(1, 0), 1);
        due("gap(1, 1)", x.gap(1, 1), 1);
        due("gap(1, 2)", x.gap(1, 2), 1);
        due("count(7)", x.count(7), 1);
        due("count(8)", x.count(8), 1);
        due("the first plank is as it was", x.told(0, 2), 5);
        due("the first gap is as it was", x.gap(0, 0), 7);
    }

    // Promise 4
    private static void toldGrows() {
        // 199 times 100 by 2000: 9 (cut); 200: 10
        int[] narrow = {9, 11, 4, 11, 1, 5}, wide = {10, 12, 5, 12, 2, 6}, dry = {0, 2, 0, 2, 0, 1}, most = {15, 18, 7, 18, 6, 8};
        for (int kind = 0; kind < 6; kind++) {
            DriedOut x = new DriedOut();
            x.plank(kind, 100199, 8);
            x.plank(kind, 100200, 8);
            x.plank(kind, 300, 8);
            x.plank(kind, 100300, 9);
            due("grows, kind " + kind + ", 199", x.told(0, 3), narrow[kind]);
            due("grows, kind " + kind + ", 200", x.told(1, 3), wide[kind]);
            due("grows, kind " + kind + ", dry", x.told(2, 3), dry[kind]);
            due("grows, kind " + kind + ", 300", x.told(3, 3), most[kind]);
        }
        DriedOut near = new DriedOut();
        near.plank(0, 98204, 0);
        due("19992 by 2000", near.told(0, 3), 9);
        DriedOut x = new DriedOut();
        x.plank(1, 10, 2);
        x.plank(1, 10, 3);
        x.plank(3, 10, 9);
        due("larch, number 2", x.told(0, 3), 0);
        due("larch, number 3", x.told(1, 3), 1);
        due("painted, number 9", x.told(2, 3), 3);
    }

    private static void toldTakesUp() {
        // dry: near 0: 2 + 4 = 6; half wet: 2; two wetter at its sides: 2 + 6 + 4
        int[] dry = {6, 6, 3, 1, 12, 3}, half = {2, 2, 1, 0, 4, 1}, between = {12, 12, 6, 7, 24, 6};
        for (int kind = 0; kind < 6; kind++) {
            DriedOut x = new DriedOut();
            x.plank(kind, 10, 5);
            due("takes up, kind " + kind + ", dry", x.told(0, 4), dry[kind]);
            x.set(0, 0, 50);
            due("takes up, kind " + kind + ", 50", x.told(0, 4), half[kind]);
            x.set(0, 0, 49);
            due("takes up, kind " + kind + ", 49", x.told(0, 4), dry[kind]);
            DriedOut y = new DriedOut();
            y.plank(0, 41010, 0);
            y.plank(kind, 40010, 5);
            y.plank(0, 41010, 0);
            due("takes up, kind " + kind + ", between wetter ones", y.told(1, 4), between[kind]);
            DriedOut z = ruled("soak 101 ; leak 0 ; dries 0 ;");
            z.plank(kind, 10, 5);
            due("takes up, kind " + kind + ", most", z.told(0, 4), new int[] {100, 100, 50, 95, 200, 50}[kind]);
            DriedOut w = ruled("soak 0-1 ; leak 0 ; dries 0 ;");
            w.plank(kind, 10, 5);
            due("takes up, kind " + kind + ", none", w.told(0, 4), 0);
            DriedOut odd = ruled("soak 7 ; leak 0 ; dries 0 ;");
            odd.plank(kind, 10, 9);
            due("takes up, kind " + kind + ", 7", odd.told(0, 4), new int[] {7, 7, 3, 0, 14, 3}[kind]);
        }
        DriedOut like = new DriedOut();
        like.plank(0, 40010, 0);
        like.plank(0, 40010, 0);
        like.plank(0, 39010, 0);
        due("like wet is not wetter", like.told(0, 4), 6);
        due("the last one: the one below is wetter", like.told(2, 4), 9);
        due("less wet is not wetter", like.told(1, 4), 6);
    }

    private static void toldBears() {
        int[] none = {10, 5, 20, 5, 0, 25}, nine = {19, 14, 38, 14, 0, 43};
        for (int kind = 0; kind < 6; kind++) {
            DriedOut x = new DriedOut();
            x.plank(kind, 10, 0);
            x.plank(kind, 10, 9);
            due("bears, kind " + kind + ", 0", x.told(0, 5), none[kind]);
            due("bears, kind " + kind + ", 9", x.told(1, 5), nine[kind]);
        }
    }

    private static void toldRest() {
        DriedOut x = new DriedOut();
        x.plank(3, 77123, 48);
        x.set(1, 0, 42);
        int[] want = {3, 123, 77, 6, 0, 13, 42, 8, BAD};
        for (int what = 0; what < want.length; what++) due("told(0, " + what + ")", x.told(0, what), want[what]);
        due("told(0, -1)", x.told(0, -1), BAD);
        due("told(1, 0)", x.told(1, 0), BAD);
        due("told(-1, 0)", x.told(-1, 0), BAD);
        due("told(MAX, MAX)", x.told(MAX, MAX), BAD);
        due("told(MIN, MIN)", x.told(MIN, MIN), BAD);
    }

    // Promise 5
    private static void gap() {
        DriedOut x = new DriedOut();
        x.plank(0, 100300, 0);
        due("one plank has no gap", x.gap(0, 0), BAD);
        x.plank(0, 100280, 200);
        x.plank(1, 300, 73);
        // 15 and 14 by 2: 14 (cut); 14 and 1 by 2: 7
        int[] first = {20, 0, 1, 6, 0}, second = {7, 0, 1, 0, 0};
        for (int what = 0; what < 5; what++) {
            due("gap(0, " + what + ")", x.gap(0, what), first[what]);
            due("gap(1, " + what + ")", x.gap(1, what), second[what]);
        }
        x.set(3, 0, 6);
        due("just stuffed: OPEN", x.gap(0, 3), 0);
        due("just stuffed: PRESS", x.gap(0, 4), 0);
        x.set(3, 0, 9);
        due("stuffed: STUFFING", x.gap(0, 1), 9);
        due("stuffed: OPEN", x.gap(0, 3), 0);
        due("stuffed: PRESS", x.gap(0, 4), 3);
        x.set(4, 0, 0);
        due("its fastening is gone", x.gap(0, 2), 0);
        due("it presses still", x.gap(0, 4), 3);
        due("gap(2, 0)", x.gap(2, 0), BAD);
        due("gap(-1, 0)", x.gap(-1, 0), BAD);
        due("gap(0, -1)", x.gap(0, -1), BAD);
        due("gap(0, 5)", x.gap(0, 5), BAD);
        due("gap(MAX, 0)", x.gap(MAX, 0), BAD);
        due("gap(MIN, 0)", x.gap(MIN, 0), BAD);
    }

    // Promise 6
    private static void feed() {
        DriedOut x = new DriedOut();
        due("feed(0, 0)", x.feed(0, 0), BAD);
        due("feed(9, 0)", x.feed(9, 0), BAD);
        due("feed(-1, 0)", x.feed(-1, 0), BAD);
        due("feed(MIN, 0)", x.feed(MIN, 0), BAD);
        due("feed(MAX, 0)", x.feed(MAX, 0), BAD);
        due("nothing came", x.count(5), 0);
        due("feed(1, ..)", x.feed(1, 0x5a73L), 1);
        due("feed(3, ..)", x.feed(3, 0x5a6b616fL), 4);
        due("count(5)", x.count(5), 4);
        feed(x, " 1;leak 2;dries 3;");
        due("the lowest byte came first", x.text(), 1);
        due("the tape is empty then", x.count(5), 0);
        for (int i = 1; i <= 20; i++) due("feed(8, ..) " + i, x.feed(8, 0x2020202020202020L), 8 * i);
        for (int n = 1; n <= 8; n++) due("full: feed(" + n + ", ..)", x.feed(n, 0), FULL);
        due("full: feed(0, ..)", x.feed(0, 0), BAD);
        due("full: feed(9, ..)", x.feed(9, 0), BAD);
        due("160 blanks end too early", x.text(), -260);
        for (int i = 1; i <= 19; i++) x.feed(8, -1L);
        due("feed to 159", x.feed(7, -1L), 159);
        due("no room for two", x.feed(2, 0), FULL);
        due("count(5) at 159", x.count(5), 159);
        due("room for one", x.feed(1, 0), 160);
        due("all bytes of -1 came: the first is no token", x.text(), -100);
        x.feed(8, Long.MIN_VALUE | 0x20202020202020L);
        due("the highest byte came last", x.text(), -107);
    }

    // Promise 7
    private static void textsThatStand() {
        String[] stand = {"soak 1;leak 2;dries 3;", " \n soak\n1 ; leak 2 ; dries 3 ; \n", "soak(1);leak-1;dries wet;",
            "soak((((1))));leak 9999;dries 0000;", "soak not not 1;leak not 1<2;dries not(1)=2 or not 3 and not 4;"};
        DriedOut x = new DriedOut();
        for (int i = 0; i < stand.length; i++) due("text() of " + stand[i], text(x, stand[i]), i + 1);
        due("count(4)", x.count(4), 6);
        String all = "soak wet+dry*near-old<day+salt or 1 and not 0;leak(wet)=-dry;dries((-1));";
        due("all tokens", text(new DriedOut(), all), 1);
        String longest = "soak 1" + "+1".repeat(66) + ";leak 1;dries 1;       ";
        due("its size", longest.length(), 161);
        due("160 bytes", text(new DriedOut(), longest.substring(0, 160)), 1);
        due("glued words", text(new DriedOut(), "soak 1or 2and 3;leak 1;dries 1;"), 1);
        due("glued numbers", text(new DriedOut(), "soak2;leak3;dries4;"), 1);
    }

    private static void value(String e, int want) {
        DriedOut x = ruled("soak " + e + " ; leak 0 ; dries 0 ;");
        x.plank(0, 90010, 0);
        x.plank(0, 30010, 7);
        x.plank(0, 90010, 0);
        x.set(5, 0, 4);
        x.air(3);
        due("value of " + e, x.told(1, 4), want);
    }

    /** The plank in the middle: wet 30, dry 70, near 2, old 7; day 3, salt 4. */
    private static void textValues() {
        String[] e = {"wet", "dry", "near", "old", "day", "salt", "2+3*4", "(2+3)*4", "9-3-2", "9-3+2", "9-(3+2)", "2*3*4",
            "-3+5", "5- -3", "- -4", "-3*-3", "1<2", "2<1", "2<2", "2=2", "2=3", "1+1<3", "3<1+1", "5=2+3", "not 0", "not 5",
            "not not 5", "not 1<0", "not 0+1", "0 or 0", "0 or 5", "5 or 0", "5 and 0", "0 and 5", "5 and 7", "0 and 0",
            "1 or 0 and 0", "(1 or 0) and 0", "0 and 0 or 1", "1 and 0 or 0 and 1", "not 0 and 0", "not 0 or 1", "not(0 and 0)",
            "1<2 and 2<3", "(1<2)=1", "9999*9999*22<0", "9999*9999*21<0",
            "9999*9999*21+9999*9999<0", "-9999*9999*21-9999*9999<0", "100+1", "9999", "-1", "0-5+7", "1-2*3+8", "-(2+3)+9", "0012",
            "near*3+(50<dry)*4+2"};
        int[] want = {30, 70, 2, 7, 3, 4, 14, 20, 4, 8, 4, 24, 2, 8, 4, 9, 1, 0, 0, 1, 0, 1, 0, 1, 1, 0,
            1, 1, 0, 0, 1, 1, 0, 0, 1, 0, 1, 0, 1, 0, 0, 1, 1,
            1, 1, 1, 0,
            1, 0, 100, 100, 0, 2, 3, 4, 12,
            12};
        due("as many values as texts", want.length, e.length);
        for (int i = 0; i < e.length; i++) value(e[i], want[i]);
    }

    private static void fault(String text, int place) {
        DriedOut x = new DriedOut();
        due("text() of " + text, text(x, text), -100 - place);
        due("the tape is empty behind " + text, x.count(5), 0);
        due("no more texts behind " + text, x.count(4), 1);
    }

    private static void textFaults() {
        fault("", 0);
        fault("   ", 3);
        fault("leak 1;", 0);
        fault("1", 0);
        fault("soak", 4);
        fault("soak ;", 5);
        fault("soak 1", 6);
        fault("soak 1 ", 7);
        fault("soak 1;", 7);
        fault("soak 1 2;", 7);
        fault("soak 1;soak 2;", 7);
        fault("soak 1;leak 2;leak 3;", 14);
        fault("soak 1;leak 2;dries 3", 21);
        fault("soak 1;leak 2;dries 3;;", 22);
        fault("soak 1;leak 2;dries 3; 4", 23);
        fault("soak 1;leak 2;dries 3;\t", 22);
        fault("soak wett;", 5);
        fault("soak we;", 5);
        fault("soak bet;", 5);
        fault("soak wat;", 5);
        fault("soak wex;", 5);
        fault("soak wetz;", 5);
        fault("soak weta;", 5);
        fault("soa 1;", 0);
        fault("soaks 1;", 0);
        fault("Soak 1;", 0);
        fault("soak\t1;", 4);
        fault("soak 1\r;", 6);
        fault("soak 1/2;", 6);
        fault("soak 1>2;", 6);
        fault("soak 12345;", 5);
        fault("soak 90909;", 5);
        fault("soak 00001;", 5);
        fault("soak 1 or;", 9);
        fault("soak or 1;", 5);
        fault("soak 1 and and 1;", 11);
        fault("soak 1+;", 7);
        fault("soak 1++1;", 7);
        fault("soak 1*;", 7);
        fault("soak *1;", 5);
        fault("soak +1;", 5);
        fault("soak 1<;", 7);
        fault("soak 1<2<3;", 8);
        fault("soak 1<2=3;", 8);
        fault("soak 1=2<3;", 8);
        fault("soak 1=2=3;", 8);
        fault("soak 1+not 2;", 7);
        fault("soak 1<not 2;", 7);
        fault("soak -not 2;", 6);
        fault("soak 1*not 2;", 7);
        fault("soak not;", 8);
        fault("soak 1 not 2;", 7);
        fault("soak ();", 6);
        fault("soak (1;", 7);
        fault("soak (1", 7);
        fault("soak 1);", 6);
        fault("soak )1;", 5);
        fault("soak (1)2;", 8);
        fault("soak wet dry;", 9);
        fault("soak soak;", 5);
        fault("soak 1;leak dries;", 12);
        fault("soak 1 ; leak 2 ; dries 3 ; x", 28);
        fault("soak 1 + ) x", 9);
        fault("soak 1;leak @", 12);
        fault("soak \u00e9;", 5);
        fault("soak \0;", 5);
        fault("soak `;", 5);
        fault("soak {;", 5);
        fault("soak :;", 5);
        fault("soak notnot 1;", 5);
        fault("soak 1x;", 6);
    }

    private static void stands(String e) {
        due("text() of " + e, text(new DriedOut(), "soak " + e + ";leak 1;dries 1;"), 1);
    }

    private static void textDepth() {
        stands("(((((1)))))");
        fault("soak ((((((1))))));", 10);
        stands("-----1");
        fault("soak ------1;", 10);
        stands("not not not not not 1");
        fault("soak not not not not not not 1;", 25);
        stands("not(-(-1))");
        fault("soak not(-(-(1)));", 12);
        fault("soak not(-(--1));", 12);
        fault("soak not(-(-(not 1)));", 12);
        fault("soak not not(-(not -1));", 15);
        stands("(((((1)))))+(((((1)))))");
        stands("-----1+-----1*-----1");
        stands("not not not not not 1 and not not not not not 1 or -----1");
        stands("((((-1)+(1))))+(((((1)))))");
        fault("soak not(((1)+((1))))<(1)+(((((1)))));", 30);
        stands("not(((1)+((1))))<(1)+((((1))))");
        fault("soak -----(1);", 10);
        fault("soak -(----(1));", 10);
        fault("soak -(---(1));", 10);
        stands("-(1)-(1)-(1)-(1)-(1)-(1)-(1)");
        stands("1-1-1-1-1-1-1-1");
        stands("----(1)-----(1)");
        fault("soak ----(1-(1));", 12);
    }

    private static void textFull() {
        DriedOut x = new DriedOut();
        for (int i = 1; i < 6; i++) due("text " + i, text(x, "soak " + i + ";leak 1;dries 1;"), i);
        feed(x, "soak");
        due("no text more has room", x.text(), FULL);
        due("the tape stays", x.count(5), 4);
        due("count(4)", x.count(4), 6);
    }

    // Promise 8
    private static void force() {
        DriedOut x = new DriedOut();
        due("force(0)", x.force(0), 0);
        due("force(1), none such", x.force(1), BAD);
        due("force(-1)", x.force(-1), BAD);
        text(x, "soak 21;leak 22;dries 23;");
        text(x, "soak 31;leak 32;dries 33;");
        due("a text is not THE RULE at once", x.count(6), 0);
        x.plank(0, 40010, 0);
        x.plank(0, 40010, 10);
        due("force(1)", x.force(1), 0);
        due("by it: takes up", x.told(0, 4), 21);
        due("by it: comes in", x.comes(), 22);
        due("force(2)", x.force(2), 1);
        due("by the next: takes up", x.told(0, 4), 31);
        due("by the next: comes in", x.comes(), 32);
        due("force(3)", x.force(3), BAD);
        due("force(MIN)", x.force(MIN), BAD);
        due("force(MAX)", x.force(MAX), BAD);
        due("BAD changes nothing", x.count(6), 2);
        x.air(1);
        due("by the next: dries", x.told(0, 2), 7);
        due("force(0)", x.force(0), 2);
    }

    // Promise 9
    private static void comes() {
        DriedOut x = new DriedOut();
        due("nothing there", x.comes(), 0);
        x.plank(0, 10, 0);
        x.set(1, 0, 3);
        due("nails", x.comes(), 30);
        x.plank(0, 10, 50);
        x.plank(0, 10, 70);
        due("two gaps", x.comes(), 30 + 2 * 12);
        x.set(5, 0, 9);
        due("salt", x.comes(), 30 + 11 * 12);
        x.set(3, 1, 9);
        due("what presses doesn't take away", x.comes(), 30 + 11 * 5);
        DriedOut y = ruled("soak 0;leak old*200+near;dries 0;");
        y.plank(0, 10, 3);
        y.plank(0, 10, 24);
        y.plank(0, 1010, 35);
        due("by the plank below, 999 at most", y.comes(), 2 * 600 + 3 * 801);
        DriedOut z = ruled("soak 0;leak old*1000;dries 0;");
        z.plank(0, 10, 1);
        z.plank(0, 10, 20);
        due("leak 999 at most", z.comes(), 2 * 999);
        DriedOut w = ruled("soak 0;leak 0-5;dries 0;");
        w.plank(0, 10, 1);
        w.plank(0, 10, 20);
        due("leak 0 at least", w.comes(), 0);
        DriedOut all = ruled("soak 0;leak 9999;dries 0;");
        for (int i = 0; i < 10; i++) {
            all.plank(0, 10, 2000);
            all.set(1, i, 99);
        }
        due("as much as can be", all.comes(), 9 * 200 * 999 + 9900);
        due("for 60 days", all.run(60, 0, 4), 60L * (9 * 200 * 999 + 9900));
    }

    // Promise 10
    private static void run() {
        DriedOut x = new DriedOut();
        due("no planks: fastenings", x.run(1, 0, 3), 0);
        due("no planks: came in", x.run(60, MIN, 4), 0);
        due("no planks: wet", x.run(1, 0, 2), NO);
        x.plank(0, 40200, 0);
        due("one plank: open", x.run(1, 0, 0), NO);
        due("one plank: press", x.run(1, 0, 1), NO);
        // they take up 6, 9, 2, 5 and 9, 6, 5, 2; they grow 4, 5, 5, 6 and 4, 5, 5, 6
        x.plank(0, 38200, 150);
        int[] below = {46, 55, 57, 62}, above = {47, 53, 58, 60}, open = {11, 10, 10, 9};
        for (int d = 1; d <= 4; d++) {
            due("wet of 0, day " + d, x.run(d, 0, 2), below[d - 1]);
            due("wet of 1, day " + d, x.run(d, 1, 2), above[d - 1]);
            due("open, day " + d, x.run(d, 0, 0), open[d - 1]);
            due("press, day " + d, x.run(d, 0, 1), 0);
        }
        due("came in, 1 day", x.run(1, 0, 4), 22);
        due("came in, 3 days", x.run(3, 5, 4), 22 + 20 + 20);
        due("wet is 100 at most", x.run(60, 0, 2), 100);
        due("nothing is changed", x.told(0, 2), 40);
        due("the day is not changed", x.count(3), 0);
        int[][] no = {{0, 0, 0}, {61, 0, 0}, {-1, 0, 0}, {MIN, 0, 0}, {MAX, 0, 0}, {1, 1, 0}, {1, -1, 0}, {1, 1, 1}, {1, -1, 1},
            {1, 2, 2}, {1, -1, 2}, {1, 0, 5}, {1, 0, -1}, {0, 0, 3}, {61, 0, 4}, {1, MAX, 0}, {1, MIN, 2}};
        for (int[] n : no) due("run(" + n[0] + ", " + n[1] + ", " + n[2] + ")", x.run(n[0], n[1], n[2]), NO);
        due("of does not matter with 3", x.run(60, MAX, 3), 0);
        due("of does not matter with 4", x.run(1, MIN, 4), 22);
        DriedOut y = ruled("soak 0;leak day;dries 0;");
        y.plank(0, 10, 0);
        y.plank(0, 10, 10);
        due("each day as it ends", y.run(4, 0, 4), 1 + 2 + 3 + 4);
        DriedOut z = ruled("soak day*10+1;leak 0;dries 0;");
        z.plank(0, 10, 0);
        due("soak by the day as it began", z.run(2, 0, 2), 1 + 11);
    }

    private static void runFastenings() {
        DriedOut x = ruled("soak 100;leak 1;dries 0;");
        x.plank(0, 200, 9);
        x.plank(2, 200, 0);
        // an OAK takes up 50: they grow 10 and 2 (6 together), then 10 and 5 (7); they bear 19 and 20
        x.set(3, 0, 12);
        due("a press that is borne", x.run(60, 0, 3), 0);
        due("its press on the first day", x.run(1, 0, 1), 18);
        due("its press", x.run(2, 0, 1), 19);
        x.set(3, 0, 13);
        due("a press that isn't", x.run(60, 0, 3), 1);
        due("not by the first day", x.run(1, 0, 3), 0);
        due("by the second", x.run(2, 0, 3), 1);
        due("its press on the first day, whole", x.run(1, 0, 1), 19);
        due("its press is less by a quarter (cut)", x.run(2, 0, 1), 15);
        due("open then", x.run(2, 0, 0), 0);
        x.set(4, 0, 0);
        due("it can't go twice", x.run(60, 0, 3), 0);
        due("its press is whole", x.run(60, 0, 1), 20);
        DriedOut y = ruled("soak 100;leak 1;dries 0;");
        y.plank(2, 10, 0);
        y.plank(1, 10, 9);
        y.set(3, 0, 18);
        y.plank(4, 10, 0);
        y.plank(0, 10, 0);
        // grow 0 and 3: PRESS 17 (LEFT 0 - 1 - 18: 19), the lesser bears 14; then 3 and 0: 1, SOFT bears 0
        due("two go", y.run(1, 0, 3), 2);
        due("the first gap's press", y.run(1, 0, 1), 19 - 4);
        due("a press of 1 is wider by 0", y.run(1, 1, 1), 1);
        due("a press of 0 doesn't", y.run(1, 2, 1), 0);
        DriedOut now = ruled("soak 0;leak 1;dries 0;");
        now.plank(4, 10, 0);
        now.plank(4, 10, 0);
        now.set(3, 0, 100);
        due("not ahead of the first day", now.gap(0, 2), 1);
        due("behind it, also if nothing grows", now.run(1, 0, 3), 1);
        due("its press then", now.run(1, 0, 1), 75);
        due("its press is so for good", now.run(60, 0, 1), 75);
    }

    // Promise 11
    private static void lay() {
        DriedOut x = ruled("soak 10;leak day;dries 0;");
        due("lay(0)", x.lay(0), BAD);
        due("lay(61)", x.lay(61), BAD);
        due("lay(-1)", x.lay(-1), BAD);
        due("lay(MIN)", x.lay(MIN), BAD);
        due("lay(MAX)", x.lay(MAX), BAD);
        due("BAD is no day", x.count(3), 0);
        x.plank(4, 200, 0);
        x.plank(0, 200, 10);
        x.plank(0, 200, 90);
        // a day: wet 20, 10, 10; grow 2, 1, 1
        due("lay(1)", x.lay(1), 0);
        due("wet 0", x.told(0, 2), 20);
        due("wet 1", x.told(1, 2), 10);
        due("day", x.count(3), 1);
        due("open", x.gap(0, 3), 0);
        due("open of the other one", x.gap(1, 3), 8);
        // two more: wet 60, 30, 30: 6 and 3 by 2: 4; left 1 less 4: press 3 (the second day: 4 and 2: 2 went: press 2)
        due("lay(2)", x.lay(2), 1);
        due("fast", x.gap(0, 2), 0);
        due("the other is fast", x.gap(1, 2), 1);
        due("wide: by press 2, 0 more", x.gap(0, 0), 1);
        due("press", x.gap(0, 4), 3);
        due("it went already", x.lay(60), 0);
        due("day then", x.count(3), 63);
        due("wet at most", x.told(1, 2), 100);
        x.set(4, 0, 1);
        x.set(3, 0, 4);
        // press: 10 and 10 by 2 and 4, less 1: 13
        due("fast again, gone again", x.lay(1), 1);
        due("wider by 3", x.gap(0, 0), 4);
        due("press then", x.gap(0, 4), 10);
    }

    // Promise 12
    private static void air() {
        DriedOut x = new DriedOut();
        due("air(0)", x.air(0), BAD);
        due("air(61)", x.air(61), BAD);
        due("air(-1)", x.air(-1), BAD);
        due("air(MIN)", x.air(MIN), BAD);
        due("air(MAX)", x.air(MAX), BAD);
        due("air(60)", x.air(60), 60);
        x.plank(0, 54010, 0);
        x.plank(0, 51010, 0);
        x.plank(5, 50010, 0);
        x.plank(5, 10, 0);
        due("air(1)", x.air(1), 61);
        due("wet 54 is less by 3", x.told(0, 2), 51);
        due("wet 51 is less by 3", x.told(1, 2), 48);
        due("wet 50 is less by 1", x.told(2, 2), 49);
        due("wet 0 at least", x.told(3, 2), 0);
        due("air(2)", x.air(2), 63);
        due("wet 51 is less by 3, then by 1", x.told(0, 2), 47);
        DriedOut y = ruled("soak 0;leak 0;dries near*10+1;");
        y.plank(0, 50010, 0);
        y.plank(0, 55010, 0);
        y.plank(0, 52010, 0);
        y.air(1);
        due("all as the day began: 0", y.told(0, 2), 39);
        due("all as the day began: 1", y.told(1, 2), 54);
        due("all as the day began: 2", y.told(2, 2), 41);
        DriedOut z = ruled("soak 0;leak 0;dries 9999;");
        z.plank(0, 100010, 0);
        z.air(1);
        due("dries 100 at most", z.told(0, 2), 0);
        DriedOut w = ruled("soak 0;leak 0;dries -5;");
        w.plank(0, 50010, 0);
        w.air(1);
        due("dries 0 at least", w.told(0, 2), 50);
        DriedOut d = ruled("soak 0;leak 0;dries day;");
        d.plank(0, 50010, 0);
        d.air(4);
        due("dries by the day as it began", d.told(0, 2), 50 - 0 - 1 - 2 - 3);
    }

    private static void lastDay() {
        DriedOut x = ruled("soak day=9999;leak day;dries 0;");
        x.plank(0, 10, 0);
        x.plank(0, 10, 10);
        for (int i = 0; i < 166; i++) x.lay(60);
        due("day 9960", x.count(3), 9960);
        due("day 9998", x.lay(38), 0);
        due("count(3)", x.count(3), 9998);
        due("came in up to the last day", x.run(3, 0, 4), 9999 * 0 + 999 * 3);
        due("wet as from the last day", x.run(3, 0, 2), 2);
        due("lay(60)", x.lay(60), 0);
        due("9999 at most", x.count(3), 9999);
        due("air(60)", x.air(60), 9999);
        due("air(1)", x.air(1), 9999);
    }

    // Promise 13
    private static void tight() {
        DriedOut x = new DriedOut();
        due("no planks", x.tight(), 0);
        x.plank(0, 200, 0);
        due("no gaps", x.tight(), 0);
        rule(x, "soak 10;leak 1;dries 0;");
        x.plank(0, 200, 30);
        due("3 wide: a day each", x.tight(), 3);
        x.plank(0, 200, 100);
        due("10 wide: ten days", x.tight(), 10);
        x.set(2, 1, 11);
        due("11 wide: never", x.tight(), NONE);
        x.set(3, 1, 11);
        due("stuffed", x.tight(), 3);
        x.set(2, 0, 0);
        due("now", x.tight(), 0);
        DriedOut y = ruled("soak 1;leak 1;dries 0;");
        y.plank(0, 40200, 0);
        y.plank(0, 40200, 100);
        due("on the 60th day", y.tight(), 60);
        y.set(0, 0, 39);
        y.set(0, 1, 39);
        due("on the 61st: none", y.tight(), NONE);
        due("the day stays", y.count(3), 0);
        due("the wet stays", y.told(0, 2), 39);
        // one closes, goes and is open no more than before; she must be tight behind one day
        DriedOut z = ruled("soak 100;leak 1;dries 0;");
        z.plank(4, 200, 0);
        z.plank(4, 200, 0);
        z.set(3, 0, 100);
        due("gone, but tight", z.tight(), 0);
    }

    // Promise 14
    private static void out() {
        DriedOut x = ruled("soak 10;leak 7;dries 0;");
        x.set(6, 0, 0);
        due("no planks", x.out(), 0);
        x.plank(0, 200, 0);
        x.plank(0, 200, 50);
        due("no water", x.out(), 5);
        x.set(6, 0, 7);
        due("as much as the pump takes", x.out(), 4);
        x.set(6, 0, 6);
        due("one less", x.out(), 5);
        x.set(6, 0, 35);
        due("now", x.out(), 0);
        x.set(1, 0, 1);
        x.set(6, 0, 9);
        due("nails stay open", x.out(), NONE);
        x.set(6, 0, 10);
        due("nails alone", x.out(), 5);
        DriedOut y = ruled("soak 1;leak 1;dries 0;");
        y.plank(0, 40200, 0);
        y.plank(0, 40200, 100);
        y.set(6, 0, 0);
        due("on the 60th day", y.out(), 60);
        y.set(0, 0, 39);
        y.set(0, 1, 39);
        due("on the 61st: none", y.out(), NONE);
        DriedOut z = ruled("soak 0;leak 9-day;dries 0;");
        z.plank(0, 10, 0);
        z.plank(0, 10, 10);
        z.set(6, 0, 4);
        due("by the day behind", z.out(), 5);
        due("500 at first", new DriedOut().count(8), 500);
    }

    // Promise 15
    private static void sack() {
        DriedOut x = ruled("soak 0;leak old+1;dries 0;");
        due("no planks", x.sack(5), NO);
        x.plank(0, 10, 2);
        due("no gap", x.sack(5), NO);
        x.plank(0, 10, 104);
        x.plank(0, 10, 206);
        x.plank(0, 10, 200);
        due("the first of the most open: leak 5", x.sack(5), 25);
        due("0 more", x.sack(0), 0);
        due("more than it is open", x.sack(100), 100);
        due("-1", x.sack(-1), NO);
        due("101", x.sack(101), NO);
        due("MIN", x.sack(MIN), NO);
        due("MAX", x.sack(MAX), NO);
        due("nothing is changed", x.gap(1, 1), 0);
        x.set(2, 2, 21);
        due("now the last is most open: leak 7", x.sack(5), 35);
        x.set(2, 2, 200);
        x.set(3, 2, 99);
        due("stuffing 100 at most", x.sack(50), 7);
        x.set(3, 2, 100);
        due("no more", x.sack(50), 0);
        x.set(2, 0, 0);
        x.set(2, 1, 0);
        x.set(2, 2, 0);
        due("nothing is open", x.sack(50), 0);
        DriedOut y = new DriedOut();
        y.sack(101);
        due("v and no gap", y.sack(101), NO);
    }

    // Promise 16
    private static void first() {
        DriedOut x = ruled("soak 0;leak old+1;dries 0;");
        due("no gap", x.first(1), NONE);
        due("no gap, BAD", x.first(0), BAD);
        x.plank(0, 10, 2);
        due("still none", x.first(100), NONE);
        for (int v : new int[] {0, 101, -1, MIN, MAX}) due("first(" + v + ")", x.first(v), BAD);
        x.plank(0, 10, 104);
        x.plank(0, 10, 106);
        x.plank(0, 10, 109);
        // leaks 3, 5, 7; 10 wide each; they bear 12, 14, 16
        due("least comes in behind", x.first(4), 2);
        x.set(2, 2, 2);
        due("4 times 5 more than 2 times 7", x.first(4), 1);
        x.set(2, 2, 0);
        x.set(2, 1, 0);
        x.set(2, 0, 0);
        due("alike: the first", x.first(4), 0);
        x.set(3, 0, 8);
        due("press 12 is borne by 12", x.first(4), 0);
        due("press 13 isn't by 12", x.first(5), 1);
        due("press 14 is by 14: gap 1", x.first(14), 1);
        x.set(3, 1, 1);
        due("press 15 isn't by 14: gap 2", x.first(14), 2);
        due("nothing is changed", x.gap(0, 1) * 100 + x.gap(1, 1) * 10 + x.gap(2, 1), 810);
        due("all are fast", x.count(2), 3);
        DriedOut y = ruled("soak 0;leak 1;dries 0;");
        y.plank(2, 10, 9);
        y.plank(2, 10, 2009);
        y.plank(2, 10, 2009);
        y.set(3, 0, 60);
        due("10 less comes in by both: the first", y.first(10), 0);
        y.set(3, 0, 95);
        due("100 at most: the second", y.first(10), 1);
        // the day of the leak is the one behind the run
        DriedOut z = ruled("soak 0;leak (59<day)*old+(day<60)*(9-old);dries 0;");
        z.plank(0, 10, 2);
        z.plank(0, 10, 105);
        z.plank(0, 10, 100);
        due("leak as it is behind 60 days", z.first(3), 1);
    }

    // Promise 17
    private static void most() {
        DriedOut x = ruled("soak 100;leak 1;dries 0;");
        due("no gap", x.most(0), BAD);
        x.plank(0, 200, 3);
        due("still none", x.most(0), BAD);
        x.plank(0, 200, 52);
        // grow 10: press is stuffing and 5; bears 12
        due("most(0)", x.most(0), 7);
        due("most(-1)", x.most(-1), BAD);
        due("most(1)", x.most(1), BAD);
        due("most(MIN)", x.most(MIN), BAD);
        due("most(MAX)", x.most(MAX), BAD);
        x.set(3, 0, 50);
        due("what is in it does not matter", x.most(0), 7);
        due("it stays", x.gap(0, 1), 50);
        x.set(4, 0, 0);
        due("a fastening that is gone can't go", x.most(0), 100);
        x.set(4, 0, 1);
        x.set(2, 0, 200);
        due("a wide gap", x.most(0), 100);
        x.set(2, 0, 98);
        due("100 are borne", x.most(0), 100);
        x.set(2, 0, 97);
        due("99 are borne", x.most(0), 99);
        DriedOut y = ruled("soak 100;leak 1;dries 0;");
        y.plank(4, 200, 0);
        y.plank(4, 200, 0);
        due("it goes with 0 too", y.most(0), 100);
        y.set(2, 0, 10);
        due("0 are borne", y.most(0), 0);
        y.set(2, 0, 11);
        due("1 is borne", y.most(0), 1);
        y.set(2, 0, 10);
        y.plank(4, 200, 0);
        due("another one that goes does not matter", y.most(0), 0);
        DriedOut z = ruled("soak 1;leak 1;dries 0;");
        z.plank(0, 40200, 0);
        z.plank(0, 40200, 0);
        due("by 60 days", z.most(0), 0);
        z.set(0, 0, 20);
        z.set(0, 1, 20);
        due("80 wet by then", z.most(0), 2);
    }

    // Promise 18
    private static void far() {
        DriedOut x = ruled("soak 0;leak 1;dries 0;");
        due("nothing comes in", x.far(0), 999);
        due("far(-1)", x.far(-1), BAD);
        due("far(10000)", x.far(10000), BAD);
        due("far(MIN)", x.far(MIN), BAD);
        due("far(MAX)", x.far(MAX), BAD);
        x.plank(0, 10, 0);
        x.plank(0, 10, 10);
        due("1 a day: 1 an hour", x.far(77), 77);
        due("999 at most", x.far(1000), 999);
        due("998", x.far(998), 998);
        due("9999", x.far(9999), 999);
        due("far(0)", x.far(0), 0);
        x.set(2, 0, 24);
        due("24: 1", x.far(77), 77);
        x.set(2, 0, 25);
        due("25: 2, cut", x.far(77), 38);
        x.set(2, 0, 48);
        due("48: 2", x.far(77), 38);
        x.set(2, 0, 49);
        due("49: 3", x.far(77), 25);
        DriedOut y = new DriedOut();
        y.plank(0, 10, 0);
        due("y: nothing comes in", y.far(50), 999);
        y.set(1, 0, 5);
        due("y: as it is now", y.far(50), 50 / 3);
        y.plank(0, 10, 200);
        due("y: as it is now, by a gap", y.far(50), 50 / 4);
        y.tight();
        y.set(2, 0, 100);
        due("y: not as it was foreseen", y.far(50), 50 / 11);
    }

    // Promise 19
    private static void nails() {
        DriedOut x = ruled("soak 0;leak 1;dries 0;");
        due("nothing: above", x.nails(0), 0);
        due("nothing: below", x.nails(1), 1);
        for (int part : new int[] {-1, 2, MIN, MAX}) due("nails(" + part + ")", x.nails(part), NO);
        x.plank(0, 10, 0);
        x.plank(0, 10, 60);
        due("no nails: above", x.nails(0), 0);
        due("no nails: below", x.nails(1), 1);
        x.set(1, 0, 1);
        due("10 by 16: above", x.nails(0), 5);
        due("10 by 16: below", x.nails(1), 8);
        x.set(2, 0, 0);
        due("10 by 10: above", x.nails(0), 1);
        due("10 by 10: below", x.nails(1), 1);
        x.set(2, 0, 7);
        x.set(1, 1, 2);
        due("30 by 37: above", x.nails(0), 30);
        due("30 by 37: below", x.nails(1), 37);
        DriedOut y = ruled("soak 100;leak 1;dries 0;");
        y.plank(0, 200, 0);
        y.plank(0, 200, 30);
        y.set(1, 0, 3);
        y.tight();
        due("30 by 33, as it is now: above", y.nails(0), 10);
        y.set(2, 0, 5);
        due("30 by 35, as it is now: below", y.nails(1), 7);
    }

    // Promises 20, 21
    private static void imageAndBack() {
        DriedOut x = new DriedOut();
        due("none yet", x.back(), STATE);
        text(x, "soak 100;leak 1;dries 100;");
        text(x, "soak 100;leak 2;dries 100;");
        x.plank(1, 10200, 5);
        x.plank(0, 20200, 30);
        x.plank(4, 30200, 40);
        x.set(1, 1, 8);
        x.set(3, 1, 2);
        x.set(4, 0, 0);
        x.set(5, 0, 7);
        x.set(6, 0, 70);
        x.force(1);
        x.air(2);
        x.set(0, 0, 11);
        x.set(0, 2, 33);
        due("image()", x.image(), 2);
        x.set(2, 0, 0);
        x.set(2, 1, 0);
        x.set(1, 1, 0);
        x.set(1, 0, 5);
        x.set(3, 0, 9);
        x.set(3, 1, 90);
        x.set(4, 0, 1);
        x.set(5, 0, 0);
        x.set(6, 0, 1);
        x.force(2);
        feed(x, "soak");
        text(x, " 1;leak 1;dries 1;");
        feed(x, "so");
        x.plank(0, 44200, 60);
        x.plank(0, 55200, 70);
        x.set(3, 2, 5);
        x.set(3, 3, 6);
        x.set(1, 3, 9);
        due("lay(5)", x.lay(5), 3);
        x.set(4, 3, 0);
        x.set(2, 3, 17);
        due("back()", x.back(), 2);
        int[][] told = {{1, 200, 11, 2, 100, 10, 0, 5}, {0, 200, 0, 0, 100, 10, 8, 0}, {4, 200, 33, 3, 200, 0, 0, 0},
            {0, 200, 100, 10, 100, 10, 9, 0}, {0, 200, 100, 10, 100, 10, 0, 0}};
        for (int i = 0; i < told.length; i++) {
            for (int k = 0; k < 8; k++) due("back: told(" + i + ", " + k + ")", x.told(i, k), told[i][k]);
        }
        int[][] gaps = {{3, 0, 0}, {4, 2, 1}, {x.gap(2, 0), 5, 0}, {17, 6, 0}};
        for (int g = 0; g < gaps.length; g++) {
            for (int k = 0; k < 3; k++) due("back: gap(" + g + ", " + k + ")", x.gap(g, k), gaps[g][k]);
        }
        // press: 10 and 10 (less 0: SOFT) by 2, 10; and 5 stuffing, less 6: 9; wider by 2
        due("back: gap(2, 0), as it came since", x.gap(2, 0), 8);
        int[] counts = {5, 3, 1, 2, 4, 2, 1, 7, 70, 17};
        for (int k = 0; k < 10; k++) due("back: count(" + k + ")", x.count(k), counts[k]);
        x.set(0, 0, 99);
        due("back() once more", x.back(), 2);
        due("once more: wet", x.told(0, 2), 11);
        x.air(1);
        due("another image", x.image(), 3);
        x.lay(3);
        due("back to the other one", x.back(), 3);
        due("another image's wet", x.told(0, 2), 0);
        DriedOut y = new DriedOut();
        due("an image without planks", y.image(), 0);
        y.plank(0, 10, 0);
        y.plank(0, 10, 10);
        y.set(0, 1, 7);
        y.lay(1);
        due("back()", y.back(), 0);
        due("the planks stay", y.count(0), 2);
        due("they are as they were", y.told(1, 2), 13);
        due("their gap is as it was", y.gap(0, 0), 1);
        DriedOut z = new DriedOut();
        z.plank(0, 10, 0);
        z.image();
        z.plank(0, 10, 90);
        z.set(2, 0, 8);
        z.back();
        due("a gap that came since stays", z.gap(0, 0), 8);
    }

    // Promise 22
    private static void count() {
        DriedOut x = new DriedOut();
        x.plank(0, 10, 0);
        x.plank(0, 10, 0);
        x.plank(0, 10, 10);
        x.plank(0, 10, 20);
        x.set(4, 2, 0);
        x.set(1, 0, 3);
        x.set(1, 3, 4);
        x.set(5, 0, 6);
        x.set(6, 0, 77);
        x.air(9);
        text(x, "soak 1;leak 1;dries 1;");
        x.force(1);
        x.feed(3, 0);
        int[] want = {4, 2, 2, 9, 2, 3, 1, 6, 77, 7, BAD};
        for (int k = 0; k < want.length; k++) due("count(" + k + ")", x.count(k), want[k]);
        x.set(2, 0, 9);
        due("one more is open", x.count(1), 3);
        x.set(3, 2, 100);
        due("one is stuffed", x.count(1), 2);
        due("count(-1)", x.count(-1), BAD);
        due("count(MIN)", x.count(MIN), BAD);
        due("count(MAX)", x.count(MAX), BAD);
    }

    // Promise 23
    private static void sheet() {
        DriedOut x = new DriedOut();
        for (int sheet : new int[] {-1, 4, MIN, MAX}) due("sheet(" + sheet + ", 0, 1)", x.sheet(sheet, 0, 1), BAD);
        for (int sort : new int[] {-2, 3, MIN, MAX}) due("sheet(0, " + sort + ", 1)", x.sheet(0, sort, 1), BAD);
        due("sheet(0, 0, 41)", x.sheet(0, 0, 41), BAD);
        due("sheet(0, 0, MAX)", x.sheet(0, 0, MAX), BAD);
        due("sheet(0, 0, -1)", x.sheet(0, 0, -1), -14);
        due("sheet(0, 2, MIN)", x.sheet(0, 2, MIN), -14);
        due("sheet(4, 0, -1)", x.sheet(4, 0, -1), BAD);
        due("sheet(0, 3, -1)", x.sheet(0, 3, -1), BAD);
        due("sheet(0, -2, -1)", x.sheet(0, -2, -1), BAD);
        due("it is missing yet", x.cell(0, 0, 0), -11);
        for (int sheet = 0; sheet < 4; sheet++) {
            for (int sort = 0; sort < 3; sort++) due("sheet(" + sheet + ", " + sort + ", 40)", x.sheet(sheet, sort, 40), 1);
            due("its last", x.cell(sheet, 39, 1), 1);
            due("behind it", x.cell(sheet, 40, 1), -12);
        }
        due("sheet(0, 0, 0)", x.sheet(0, 0, 0), 1);
        due("it has no item", x.cell(0, 0, 0), -12);
        due("it is not missing", x.copy(0, 0, 0, 0, 0), 0);
        for (int n : new int[] {41, -1, MIN, MAX, 0}) {
            x.sheet(1, 0, 3);
            due("missing, n " + n, x.sheet(1, -1, n), 1);
            due("missing then, n " + n, x.cell(1, 0, 0), -11);
        }
        due("a refusal leaves it: BAD", x.sheet(2, 0, 41), BAD);
        due("a refusal leaves it: -14", x.sheet(2, 0, -1), -14);
        due("it is as it was", x.cell(2, 39, 5), 1);
        // all 0: three 0s are no plank (WIDTH 0), what stood there was one
        x.sheet(3, 2, 3);
        x.cell(3, 1, 10);
        due("a plank", x.planks(3, 2, 0, 1), 1);
        x.sheet(3, 2, 3);
        due("all 0 again", x.planks(3, 2, 0, 1), 0);
        for (int i = 0; i < 3; i++) x.cell(3, i, 5);
        x.sheet(3, 1, 3);
        x.cell(3, 1, 10);
        due("all 0, but for a WIDTH", x.planks(3, 1, 0, 1), 1);
        due("its KIND is 0", x.told(1, 0), 0);
        due("its NUMBER is 0", x.told(1, 7), 0);
    }

    // Promise 24
    private static void cell() {
        DriedOut x = new DriedOut();
        for (int sheet : new int[] {-1, 4, MIN, MAX}) due("cell(" + sheet + ", 0, 0)", x.cell(sheet, 0, 0), BAD);
        due("missing, ahead of its place", x.cell(0, -1, 0), -11);
        x.sheet(0, 0, 3);
        for (int i : new int[] {-1, 3, MIN, MAX}) due("cell(0, " + i + ", 0)", x.cell(0, i, 0), -12);
        // bytes: 256 and 4: KIND 4; 512 and 100: WIDTH 100; 256 and 77: GAP 7, NUMBER 7
        due("cell(0, 0, 260)", x.cell(0, 0, 260), 1);
        due("cell(0, 1, 612)", x.cell(0, 1, 612), 1);
        due("cell(0, 2, 333)", x.cell(0, 2, 333), 1);
        due("it comes", x.planks(0, 0, 0, 1), 1);
        due("its KIND", x.told(0, 0), 4);
        due("its WIDTH", x.told(0, 1), 100);
        due("its NUMBER", x.told(0, 7), 7);
        x.cell(0, 1, 200);
        due("a byte of 200 is below 0", x.planks(0, 0, 0, 1), 0);
        x.sheet(1, 1, 3);
        x.cell(1, 0, 65536 + 5);
        x.cell(1, 1, 65536 + 32010);
        x.cell(1, 2, -65536 + 2009);
        due("shorts", x.planks(1, 1, 0, 1), 1);
        due("their KIND", x.told(1, 0), 5);
        due("their WET", x.told(1, 2), 32);
        due("their GAP", x.gap(0, 0), 200);
        x.cell(1, 1, 33010);
        due("a short of 33010 is below 0", x.planks(1, 1, 0, 1), 0);
        x.sheet(2, 2, 3);
        x.cell(2, 1, 100300);
        due("ints", x.planks(2, 2, 0, 1), 1);
        due("its WET", x.told(2, 2), 100);
        x.cell(2, 0, 65536);
        due("an int stays whole", x.planks(2, 2, 0, 1), 0);
    }

    // Promise 25
    private static void copy() {
        DriedOut x = new DriedOut();
        x.sheet(0, 2, 9);
        x.sheet(1, 2, 6);
        x.sheet(2, 1, 6);
        int[][] calls = {{-1, 0, 0, 0, 0, BAD}, {4, 0, 0, 0, 0, BAD}, {0, 0, -1, 0, 0, BAD}, {0, 0, 4, 0, 0, BAD}, {3, 0, 4, 0, 0, BAD},
            {3, 0, 0, 0, 0, -11}, {0, 0, 3, 0, 0, -11}, {3, -1, 2, 0, -1, -11}, {3, 0, 3, 0, 0, -11},
            {0, 0, 2, 0, 0, -13}, {2, -1, 0, 0, 0, -13}, {0, 0, 2, 0, -1, -13},
            {0, 0, 1, 0, -1, -12}, {0, -1, 1, 0, 0, -12}, {0, 0, 1, -1, 0, -12}, {0, 10, 1, 0, 0, -12}, {0, 0, 1, 7, 0, -12},
            {0, 4, 1, 0, 6, -12}, {0, 0, 1, 1, 6, -12}, {0, 0, 1, 0, MAX, -12}, {0, 0, 1, 0, MIN, -12}, {0, MAX, 1, 0, 1, -12},
            {0, 0, 1, MAX, 1, -12}, {0, 1, 1, 0, MAX, -12}, {0, 0, 1, 0, 7, -12}, {1, 1, 0, 0, 6, -12},
            {0, 9, 1, 6, 0, 0}, {0, 0, 1, 0, 0, 0}, {0, 3, 1, 0, 6, 6}, {0, 0, 1, 0, 6, 6}, {0, 8, 1, 5, 1, 1}, {0, 0, 0, 0, 9, 9}};
        for (int[] c : calls) {
            due("copy(" + c[0] + ", " + c[1] + ", " + c[2] + ", " + c[3] + ", " + c[4] + ")", x.copy(c[0], c[1], c[2], c[3], c[4]), c[5]);
        }
        // (0, 11, 1) (2, 22, 2): one item on, as they were
        DriedOut y = new DriedOut();
        y.sheet(0, 2, 7);
        int[] items = {3, 11011, 1, 2, 22022, 2};
        for (int i = 0; i < 6; i++) y.cell(0, i, items[i]);
        due("one on", y.copy(0, 0, 0, 1, 6), 6);
        due("two planks come", y.planks(0, 2, 1, 2), 2);
        due("KIND of 0", y.told(0, 0), 3);
        due("WET of 0", y.told(0, 2), 11);
        due("KIND of 1", y.told(1, 0), 2);
        due("WIDTH of 1", y.told(1, 1), 22);
        due("one back", y.copy(0, 1, 0, 0, 6), 6);
        due("two more come", y.planks(0, 2, 0, 2), 2);
        due("WET of 3", y.told(3, 2), 22);
        y.sheet(1, 2, 6);
        due("the second one ahead", y.copy(0, 3, 1, 0, 3), 3);
        due("the first one behind", y.copy(0, 0, 1, 3, 3), 3);
        due("both come", y.planks(1, 2, 0, 2), 2);
        due("KIND of 4", y.told(4, 0), 2);
        due("KIND of 5", y.told(5, 0), 3);
        due("the sheet they came from is as it was", y.planks(0, 2, 0, 1), 1);
        due("KIND of 6", y.told(6, 0), 3);
    }

    // Promise 26
    private static void planks() {
        DriedOut x = new DriedOut();
        x.sheet(0, 1, 8);
        int[][] calls = {{-1, 0, 0, 0, BAD}, {4, 0, 0, 0, BAD}, {0, -1, 0, 0, BAD}, {0, 3, 0, 0, BAD}, {0, 1, 0, -1, BAD}, {0, 1, 0, 11, BAD},
            {0, 0, 0, 11, BAD}, {1, 0, 0, -1, BAD}, {1, 3, 0, 0, BAD}, {MIN, 0, 0, 0, BAD}, {MAX, 0, 0, 0, BAD}, {0, 1, 0, MIN, BAD}, {0, 1, 0, MAX, BAD},
            {0, 0, 0, 1, -13}, {0, 2, -1, 0, -13}, {1, 0, 0, 1, -11}, {1, 2, -1, 10, -11}, {1, 1, 0, 0, -11},
            {0, 1, -1, 1, -12}, {0, 1, 6, 1, -12}, {0, 1, MIN, 1, -12}, {0, 1, MAX, 1, -12}, {0, 1, MAX - 2, 10, -12}, {0, 1, -3, 10, -12}, {0, 1, 8, 1, -12},
            {0, 1, 0, 0, 0}, {0, 1, 0, 2, 0}, {0, 1, 5, 1, 0}};
        for (int[] c : calls) {
            due("planks(" + c[0] + ", " + c[1] + ", " + c[2] + ", " + c[3] + ")", x.planks(c[0], c[1], c[2], c[3]), c[4]);
        }
        due("none came", x.count(0), 0);
        int[] items = {9, 1, 2010, 33, 6, 10, 0, 0};
        for (int i = 0; i < 8; i++) x.cell(0, i, items[i]);
        // from 1 on: (1, 2010, 33), (6, 10, 0): the second is BAD and left out, the third stands outside
        due("one comes, one is left out", x.planks(0, 1, 1, 2), 1);
        due("outside; what stood ahead came", x.planks(0, 1, 1, 3), -12);
        due("two came", x.count(0), 2);
        due("KIND", x.told(1, 0), 1);
        due("WET", x.told(1, 2), 2);
        due("WIDTH", x.told(1, 1), 10);
        due("NUMBER", x.told(1, 7), 3);
        due("GAP", x.gap(0, 0), 3);
        DriedOut y = new DriedOut();
        y.sheet(3, 2, 40);
        for (int i = 1; i < 40; i += 3) y.cell(3, i, 10);
        due("ten at once", y.planks(3, 2, 0, 10), 10);
        due("FULL ones are left out", y.planks(3, 2, 0, 10), 0);
        due("FULL, and outside", y.planks(3, 2, 30, 4), -12);
        DriedOut z = new DriedOut();
        z.sheet(3, 0, 30);
        for (int i = 1; i < 30; i += 3) z.cell(3, i, 10);
        for (int i = 0; i < 7; i++) z.plank(0, 10, 0);
        due("three have room", z.planks(3, 0, 0, 10), 3);
    }

    // Promise 27
    private static void taken() {
        DriedOut x = new DriedOut();
        boolean[][] under = {{true, false, false, false, false, false}, {true, true, false, false, false, false},
            {true, false, true, false, false, false}, {true, true, false, true, false, false},
            {true, false, false, false, true, false}, {true, false, true, false, false, true}};
        due("no planks", x.taken(0, 0), -11);
        due("no planks, BAD", x.taken(0, 6), BAD);
        for (int kind = 0; kind < 6; kind++) {
            x.plank(kind, 10, 9 - kind);
            for (int k = 0; k < 6; k++) due("taken(" + kind + ", " + k + ")", x.taken(kind, k), under[kind][k] ? 9 - kind : -13);
        }
        for (int k : new int[] {-1, 6, MIN, MAX}) {
            due("taken(0, " + k + ")", x.taken(0, k), BAD);
            due("taken(6, " + k + ")", x.taken(6, k), BAD);
        }
        for (int i : new int[] {-1, 6, MIN, MAX}) due("taken(" + i + ", 0)", x.taken(i, 0), -11);
    }
}
