/** Each sentence of the document's Terms, in its order and by its own words: ordinary inputs, edges, wrong inputs. */
public final class TermsTest {
    private static final Sentences S = new Sentences();
    private static final int BAD = -2, STATE = -3, FULL = -4, NONE = -1;
    private static final long NO = -4611686018427387904L;

    public static void main(String[] args) {
        planksAndGaps();
        leaksAndNumbers();
        kindsOfWood();
        theTape();
        grammar();
        faults();
        whatTextsSay();
        gapsInWater();
        days();
        stuffing();
        sheets();
        S.end();
    }

    private static void due(String call, long got, long want) {
        S.due(call, got, want);
    }

    /** What is told of planks 0, 1 .. by what. */
    private static void told(DriedOut x, int what, int... want) {
        for (int i = 0; i < want.length; i++) due("told(" + i + ", " + what + ")", x.told(i, what), want[i]);
    }

    private static void gaps(DriedOut x, int what, int... want) {
        for (int i = 0; i < want.length; i++) due("gap(" + i + ", " + what + ")", x.gap(i, what), want[i]);
    }

    // ==== 1, PLANKS and GAPS

    private static void planksAndGaps() {
        S.of("PLANKS (10 at most, numbered from 0, side by side from the keel on)", () -> {
            DriedOut x = Boats.ruled("soak near;leak 0;dries 0;");
            int[] what = {5011, 12, 9013, 14};
            for (int i = 0; i < 4; i++) due("plank " + i, x.plank(0, what[i], 0), i);
            told(x, 1, 11, 12, 13, 14);
            // how many are wetter beside each
            told(x, 4, 0, 2, 0, 1);
            due("told of none", x.told(4, 1), BAD);
            due("told below 0", x.told(-1, 1), BAD);
            for (int i = 4; i < 10; i++) due("plank " + i, x.plank(0, 20, 0), i);
            due("an eleventh", x.plank(0, 20, 0), FULL);
            due("how many", x.count(0), 10);
            due("the last one", x.told(9, 1), 20);
            due("told of an eleventh", x.told(10, 1), BAD);
        });
        S.of("have a KIND: 0 PLANK, 1 LARCH under PLANK, 2 OAK under PLANK, 3 PAINTED under LARCH, 4 SOFT under PLANK, 5 NEW under OAK;", () -> {
            DriedOut x = new DriedOut();
            for (int i = 0; i < 6; i++) due("KIND " + i, x.plank(i, 20, i + 1), i);
            told(x, 0, 0, 1, 2, 3, 4, 5);
            boolean[][] is = {{true}, {true, true}, {true, false, true}, {true, true, false, true},
                {true, false, false, false, true}, {true, false, true, false, false, true}};
            for (int i = 0; i < 6; i++) {
                for (int k = 0; k < 6; k++) {
                    due("taken(" + i + ", " + k + ")", x.taken(i, k), k < is[i].length && is[i][k] ? i + 1 : -13);
                }
            }
            due("KIND 6", x.plank(6, 20, 0), BAD);
            due("KIND -1", x.plank(-1, 20, 0), BAD);
            due("taken(0, 6)", x.taken(0, 6), BAD);
            due("taken(0, -1)", x.taken(0, -1), BAD);
        });
        S.of("a WIDTH (10 .. 300),", () -> {
            DriedOut x = new DriedOut();
            int[] may = {10, 11, 173, 299, 300}, mayNot = {0, 1, 9, 301, 999};
            for (int i = 0; i < may.length; i++) due("WIDTH " + may[i], x.plank(0, 30000 + may[i], 0), i);
            for (int w : mayNot) due("WIDTH " + w, x.plank(0, 30000 + w, 0), BAD);
            told(x, 1, may);
            told(x, 2, 30, 30, 30, 30, 30);
            due("how many", x.count(0), 5);
        });
        S.of("WET (0 .. 100),", () -> {
            DriedOut x = new DriedOut();
            int[] may = {0, 1, 47, 99, 100};
            for (int i = 0; i < may.length; i++) due("WET " + may[i], x.plank(0, 1000 * may[i] + 10, 0), i);
            due("WET 101", x.plank(0, 101010, 0), BAD);
            due("WET -1", x.plank(0, -990, 0), BAD);
            told(x, 2, may);
            due("WET becomes 61", x.set(0, 2, 61), 47);
            due("WET becomes 101", x.set(0, 2, 101), BAD);
            due("WET becomes -1", x.set(0, 2, -1), BAD);
            told(x, 2, 0, 1, 61, 99, 100);
        });
        S.of("a NUMBER (0 .. 9).", () -> {
            DriedOut x = new DriedOut();
            for (int i = 0; i < 10; i++) due("NUMBER " + i, x.plank(0, 10, 30 + i), i);
            told(x, 7, 0, 1, 2, 3, 4, 5, 6, 7, 8, 9);
            gaps(x, 0, 3, 3, 3, 3, 3, 3, 3, 3, 3);
        });
        S.of("GAP i lies between PLANK i (below it) and PLANK i and 1:", () -> {
            DriedOut x = Boats.ruled("soak 0;leak old;dries 0;");
            int[] more = {2, 315, 527};
            for (int i = 0; i < 3; i++) due("plank " + i, x.plank(0, 10, more[i]), i);
            gaps(x, 0, 31, 52, BAD);
            due("gap(-1, 0)", x.gap(-1, 0), BAD);
            // the ones below have NUMBERS 2 and 5
            due("COMES IN", x.comes(), 31 * 2 + 52 * 5);
            x.plank(0, 100200, 0);
            told(x, 3, 0, 0, 0, 10);
            gaps(x, 3, 31, 52, 0);
            gaps(x, 4, 0, 0, 5);
        });
        S.of("how wide (0 .. 200, as it is told),", () -> {
            DriedOut x = new DriedOut();
            int[] may = {0, 1, 117, 199, 200};
            x.plank(0, 10, 0);
            for (int i = 0; i < may.length; i++) due("GAP " + may[i], x.plank(0, 10, 10 * may[i]), i + 1);
            due("GAP 201", x.plank(0, 10, 2010), BAD);
            due("GAP -1", x.plank(0, 10, -10), BAD);
            gaps(x, 0, may);
            due("GAP becomes 84", x.set(2, 3, 84), 199);
            due("GAP becomes 201", x.set(2, 3, 201), BAD);
            due("GAP becomes -1", x.set(2, 3, -1), BAD);
            gaps(x, 0, 0, 1, 117, 84, 200);
        });
        S.of("STUFFING (0 .. 100; 0 at first),", () -> {
            DriedOut x = Boats.planks(new DriedOut(), 3);
            x.set(2, 1, 60);
            gaps(x, 1, 0, 0);
            int[] may = {1, 33, 99, 100, 0};
            for (int i = 0; i < may.length; i++) {
                due("STUFFING " + may[i], x.set(3, 1, may[i]), i == 0 ? 0 : may[i - 1]);
                gaps(x, 1, 0, may[i]);
                gaps(x, 3, 0, Math.max(0, 60 - may[i]));
            }
            due("STUFFING 101", x.set(3, 1, 101), BAD);
            due("STUFFING -1", x.set(3, 1, -1), BAD);
            gaps(x, 1, 0, 0);
        });
        S.of("FAST (1, as at first), or its fastening is gone (0).", () -> {
            DriedOut x = Boats.planks(Boats.ruled(Boats.STILL), 4);
            gaps(x, 2, 1, 1, 1);
            due("FAST becomes 0", x.set(4, 1, 0), 1);
            gaps(x, 2, 1, 0, 1);
            due("how many are FAST", x.count(2), 2);
            due("FAST becomes 2", x.set(4, 1, 2), BAD);
            due("FAST becomes -1", x.set(4, 1, -1), BAD);
            due("FAST becomes 1", x.set(4, 1, 1), 0);
            x.set(3, 2, 11);
            due("goes", x.lay(1), 1);
            gaps(x, 2, 1, 1, 0);
        });
    }

    private static void leaksAndNumbers() {
        S.of("A LEAK that is no gap, of a PLANK: NAILS (0 .. 99; 0 at first).", () -> {
            DriedOut x = Boats.planks(Boats.ruled(Boats.STILL), 1);
            told(x, 6, 0);
            int[] may = {37, 98, 99, 1, 0};
            for (int i = 0; i < may.length; i++) {
                due("NAILS " + may[i], x.set(1, 0, may[i]), i == 0 ? 0 : may[i - 1]);
                told(x, 6, may[i]);
                due("COMES IN", x.comes(), 10 * may[i]);
            }
            due("NAILS 100", x.set(1, 0, 100), BAD);
            due("NAILS -1", x.set(1, 0, -1), BAD);
            due("NAILS of none", x.set(1, 1, 4), BAD);
            due("it is no gap that is OPEN", x.count(1), 0);
        });
        S.of("DAY (0 .. 9999; 0 at first).", () -> {
            DriedOut x = new DriedOut();
            due("DAY", x.count(3), 0);
            x.lay(3);
            due("DAY", x.count(3), 3);
            due("DAY", x.air(40), 43);
            Boats.aired(x, 9990);
            due("DAY", x.air(9), 9999);
            due("DAY", x.air(1), 9999);
            x.lay(60);
            due("DAY", x.count(3), 9999);
        });
        S.of("SALT (0 .. 9; 0 at first),", () -> {
            DriedOut x = new DriedOut();
            due("SALT", x.count(7), 0);
            int[] may = {4, 8, 9, 1, 0};
            for (int i = 0; i < may.length; i++) {
                due("SALT " + may[i], x.set(5, 0, may[i]), i == 0 ? 0 : may[i - 1]);
                due("SALT", x.count(7), may[i]);
            }
            due("SALT 10", x.set(5, 0, 10), BAD);
            due("SALT -1", x.set(5, 0, -1), BAD);
            due("SALT", x.count(7), 0);
        });
        S.of("PUMP (0 .. 9999 a day; 500 at first).", () -> {
            DriedOut x = Boats.planks(Boats.ruled(Boats.STILL), 6);
            due("PUMP", x.count(8), 500);
            for (int i = 0; i < 5; i++) x.set(1, i, 10);
            due("COMES IN is PUMP", x.out(), 0);
            x.set(1, 5, 1);
            due("COMES IN is more", x.out(), NONE);
            int[] may = {510, 9998, 9999, 1, 0};
            int[] out = {0, 0, 0, NONE, NONE};
            for (int i = 0; i < may.length; i++) {
                due("PUMP " + may[i], x.set(6, 0, may[i]), i == 0 ? 500 : may[i - 1]);
                due("PUMP", x.count(8), may[i]);
                due("OUT", x.out(), out[i]);
            }
            due("PUMP 10000", x.set(6, 0, 10000), BAD);
            due("PUMP -1", x.set(6, 0, -1), BAD);
            due("PUMP", x.count(8), 0);
        });
        S.of("NONE is -1; NO, where a long is answered, -4611686018427387904.", () -> {
            due("NONE", DriedOut.NONE, -1);
            due("NO", DriedOut.NO, -4611686018427387904L);
            DriedOut x = new DriedOut();
            due("first(5)", x.first(5), -1);
            due("sack(5)", x.sack(5), -4611686018427387904L);
            due("run(1, 0, 0)", x.run(1, 0, 0), -4611686018427387904L);
            due("nails(2)", x.nails(2), -4611686018427387904L);
            Boats.planks(x, 1);
            x.set(1, 0, 99);
            x.set(6, 0, 0);
            due("out()", x.out(), -1);
        });
        S.of("Quotients are cut toward 0.", () -> {
            DriedOut x = Boats.ruled("soak 7;leak 1;dries 0;");
            // 299 times 20 by 2000 is 2.99; 8 by 3 is 2.67; half of 2 and of 7
            x.plank(0, 20299, 8);
            x.plank(1, 20299, 8);
            x.plank(2, 80299, 8);
            told(x, 3, 2, 4, 5);
            told(x, 4, 7, 7, 3);
            // 2 and 4 by 2; 4 and 5 by 2
            gaps(x, 4, 3, 4);
            // LARCH bears 13: PRESS 19 then, a quarter of it is 4.75
            x.set(3, 0, 16);
            due("fastenings", Boats.rule(x, Boats.STILL).lay(1), 1);
            gaps(x, 0, 4, 0);
        });
        S.of("Refusals, the first that the call's words name; they change nothing:", () -> {
            DriedOut x = Boats.planks(new DriedOut(), 10);
            due("BAD ahead of FULL", x.plank(0, 301, 0), BAD);
            due("FULL", x.plank(0, 300, 0), FULL);
            Boats.feed(x, " ".repeat(160));
            due("BAD ahead of FULL", x.feed(9, 0), BAD);
            due("FULL", x.feed(1, 0), FULL);
            due("BAD ahead of NONE", new DriedOut().first(0), BAD);
            due("BAD ahead of -14", x.sheet(4, 0, -1), BAD);
            due("-14", x.sheet(3, 0, -1), -14);
            due("BAD ahead of -11", x.cell(4, 0, 0), BAD);
            due("-11 ahead of -12", x.cell(3, -1, 0), -11);
            x.sheet(0, 0, 3);
            x.sheet(1, 1, 3);
            due("BAD ahead of -11", x.copy(4, 0, 3, 0, 1), BAD);
            due("-11 ahead of -12", x.copy(0, 9, 3, 0, 1), -11);
            due("-13 ahead of -12", x.copy(0, 9, 1, 0, 1), -13);
            due("BAD ahead of -13", x.planks(0, 1, 0, 11), BAD);
            due("-13 ahead of -12", x.planks(0, 1, 9, 1), -13);
            due("BAD ahead of -11", x.taken(10, 6), BAD);
            due("-11", x.taken(10, 1), -11);
            due("how many PLANKS", x.count(0), 10);
            due("bytes of THE TAPE", x.count(5), 160);
            told(x, 1, 10, 10, 10, 10, 10, 10, 10, 10, 10, 10);
        });
        S.of("BAD (-2: a number is none such or not as told), STATE (-3), FULL (-4);", () -> {
            DriedOut x = new DriedOut();
            due("BAD", DriedOut.BAD, -2);
            due("STATE", DriedOut.STATE, -3);
            due("FULL", DriedOut.FULL, -4);
            due("a KIND that is none", x.plank(6, 10, 0), -2);
            due("a WIDTH not as told", x.plank(0, 9, 0), -2);
            due("no IMAGE", x.back(), -3);
            for (int i = 1; i < 6; i++) due("TEXT " + i, Boats.text(x, Boats.STILL), i);
            due("no room", x.text(), -4);
        });
        S.of("the host's: -11 nothing where something is asked, -12 a place outside, -13 a thing of another sort or KIND, -14 a size below 0.", () -> {
            DriedOut x = Boats.planks(new DriedOut(), 1);
            due("no SHEET there", x.cell(0, 0, 1), -11);
            due("no PLANK there", x.taken(1, 0), -11);
            x.sheet(0, 0, 2);
            x.sheet(1, 1, 2);
            due("a place outside", x.cell(0, 2, 1), -12);
            due("another sort", x.copy(0, 0, 1, 0, 1), -13);
            due("another KIND", x.taken(0, 1), -13);
            due("a size below 0", x.sheet(0, 0, -1), -14);
            due("the SHEET is as it was", x.cell(0, 1, 1), 1);
        });
    }

    private static void kindsOfWood() {
        // WIDTH 250, WET 80: a PLANK grows 10; a lean one 1; the NUMBER is 7
        S.of("GROWS (across, by its WET): PLANK: WIDTH times WET by 2000;", () -> grows(0, 10, 1));
        S.of("LARCH: NUMBER by 3 (cut) more than a PLANK;", () -> grows(1, 12, 3));
        S.of("OAK: half (cut) of a PLANK's;", () -> grows(2, 5, 0));
        S.of("PAINTED as a LARCH;", () -> grows(3, 12, 3));
        S.of("SOFT: a PLANK's less NUMBER;", () -> grows(4, 3, 0));
        S.of("NEW: 1 more than an OAK.", () -> grows(5, 6, 1));
        // the NUMBER is 4
        S.of("TAKES UP (WET more a day in water): PLANK: what soak says;", () -> takesUp(0, 9, 3));
        S.of("LARCH as a PLANK;", () -> takesUp(1, 9, 3));
        S.of("OAK: half (cut) of a PLANK's;", () -> takesUp(2, 4, 1));
        S.of("PAINTED: a LARCH's less NUMBER;", () -> takesUp(3, 5, 0));
        S.of("SOFT: twice a PLANK's;", () -> takesUp(4, 18, 6));
        S.of("NEW as an OAK.", () -> takesUp(5, 4, 1));
        S.of("BEARS (how much it may be pressed): PLANK: 10 and NUMBER;", () -> bears(0, 10, 14, 19));
        S.of("LARCH: 5 less than a PLANK;", () -> bears(1, 5, 9, 14));
        S.of("OAK: twice a PLANK's;", () -> bears(2, 20, 28, 38));
        S.of("PAINTED as a LARCH;", () -> bears(3, 5, 9, 14));
        S.of("SOFT: 0;", () -> bears(4, 0, 0, 0));
        S.of("NEW: an OAK's and 5.", () -> bears(5, 25, 33, 43));
        S.of("(All 0 at least, in the end.)", () -> {
            DriedOut x = Boats.ruled("soak 5;leak 0;dries 0;");
            // SOFT, a PLANK grows 3 here: less NUMBER 2, 3, 4, 9
            for (int n : new int[] {2, 3, 4, 9}) x.plank(4, 30200, n);
            told(x, 3, 1, 0, 0, 0);
            // PAINTED: 5 less NUMBER 4, 5, 6, 9
            for (int n : new int[] {4, 5, 6, 9}) x.plank(3, 200, n);
            for (int i = 4; i < 8; i++) due("takes up", x.told(i, 4), i == 4 ? 1 : 0);
            x.lay(1);
            for (int i = 4; i < 8; i++) due("WET", x.told(i, 2), i == 4 ? 1 : 0);
        });
    }

    private static void grows(int kind, int want, int lean) {
        DriedOut x = new DriedOut();
        x.plank(kind, 80250, 7);
        x.plank(kind, 8250, 7);
        x.plank(kind, 80251, 0);
        told(x, 3, want, lean);
        int[] zero = {10, 10, 5, 10, 10, 6}, dry = {0, 0, 0, 0, 0, 1};
        due("by NUMBER 0", x.told(2, 3), zero[kind]);
        x.set(0, 2, 0);
        due("dry", x.told(2, 3), dry[kind]);
        // how it presses: 2 of it have a gap of 0 between them
        due("PRESS", x.gap(0, 4), (want + lean) / 2);
    }

    private static void takesUp(int kind, int of9, int of3) {
        DriedOut x = Boats.ruled("soak 9;leak 0;dries 0;");
        x.plank(kind, 20010, 4);
        told(x, 4, of9);
        x.lay(1);
        told(x, 2, 20 + of9);
        Boats.rule(x, "soak 3;leak 0;dries 0;");
        told(x, 4, of3);
        x.lay(2);
        told(x, 2, 20 + of9 + 2 * of3);
    }

    /** By NUMBERS 0, 4, 9; and a fastening between two goes when it is pressed by 1 more. */
    private static void bears(int kind, int by0, int by4, int by9) {
        DriedOut x = Boats.ruled(Boats.STILL);
        int[] number = {0, 4, 9}, want = {by0, by4, by9};
        for (int n : number) x.plank(kind, 10, n);
        told(x, 5, want);
        // NEW grow 1 each, though they are dry; LARCH and PAINTED of NUMBERS 0, 4 grow 0 and 1, by 2 (cut) 0
        int grown = kind == 5 ? 1 : 0;
        x.set(3, 0, by0 - grown);
        due("goes, pressed by as much", x.run(1, 0, 3), 0);
        x.set(3, 0, by0 - grown + 1);
        due("goes, pressed by 1 more", x.run(1, 0, 3), 1);
    }

    // ==== 1, the texts

    private static void text(String text, int want) {
        due("text() of " + text, Boats.text(new DriedOut(), text), want);
    }

    private static void stands(String e) {
        text("soak " + e + ";leak 1;dries 1;", 1);
    }

    /** The place of the FAULT is told as that in the E. */
    private static void fault(String e, int place) {
        text("soak " + e + ";leak 1;dries 1;", -105 - place);
    }

    /** WET 40, dry 60, near 1, old 6, day 21, salt 3: an E of 0 .. 999 is what comes in through a gap of 1. */
    private static void value(String e, int want) {
        DriedOut x = Boats.ruled("soak 0;leak " + e + ";dries 0;");
        x.plank(0, 40010, 6);
        x.plank(0, 41010, 10);
        x.set(5, 0, 3);
        x.air(21);
        due("value of " + e, x.comes(), want);
    }

    private static void theTape() {
        S.of("A TEXT is read from THE TAPE (160 bytes at most).", () -> {
            DriedOut x = new DriedOut();
            Boats.feed(x, "soak 3;leak 2;dries 1;");
            due("bytes", x.count(5), 22);
            due("TEXT", x.text(), 1);
            due("bytes", x.count(5), 0);
            Boats.feed(x, "soak 3;leak 2;dries 1;" + "\n".repeat(138));
            due("bytes", x.count(5), 160);
            due("a byte more", x.feed(1, 32), FULL);
            due("TEXT", x.text(), 2);
            Boats.feed(x, "soak 3;leak 2;dries 1;" + " ".repeat(135));
            due("four more", x.feed(4, 0x20202020L), FULL);
            due("three more", x.feed(3, 0x202020L), 160);
            due("none", x.feed(0, 0), BAD);
            due("nine", x.feed(9, 0), BAD);
            due("TEXT", x.text(), 3);
        });
        S.of("TOKENS, each as long as can be:", () -> {
            stands("1or 2and 3");
            stands("near*3or old");
            fault("wetor 1", 0);
            fault("notwet", 0);
            fault("1 1", 2);
            fault("12345", 0);
            text("soak1;leak2;dries3;", 1);
            text("soakwet;leak2;dries3;", -100);
        });
        S.of("WORDS (a .. z),", () -> {
            stands("wet+dry+near+old+day+salt");
            fault("Wet", 0);
            fault("we_t", 0);
            fault("wet_", 3);
            fault("sal`t", 0);
            fault("old{", 3);
        });
        S.of("NUMBERS (as many digits as stand there, 4 at most),", () -> {
            value("7", 7);
            value("42", 42);
            value("907", 907);
            value("9999-9001", 998);
            value("0005", 5);
            fault("10000", 0);
            fault("00005", 0);
            fault("wet+123456", 4);
        });
        S.of("SIGNS ( ) ; + - * < = ;", () -> {
            stands("(1)+2-3*4<5");
            stands("6=7");
            for (String sign : new String[] {">", "/", "!", "&", "|", ",", "[", ":", "%", "'"}) {
                fault("1" + sign + "2", 1);
            }
            text("soak 1,leak 1;dries 1;", -106);
            text("soak 1:leak 1;dries 1;", -106);
        });
        S.of("blanks (32, 10) may stand between.", () -> {
            text("\n\nsoak\n1\n;\nleak 2 ;dries  3;\n ", 1);
            fault("1 2", 2);
            fault("we t", 0);
            fault("1\t", 1);
            fault("1\r", 1);
            fault("1\0", 1);
            fault("\u00a01", 0);
            fault("1 0 and 0", 2);
        });
    }

    private static void grammar() {
        S.of("TEXT: soak E ; leak E ; dries E ;", () -> {
            text("soak 4 ; leak 5 ; dries 6 ;", 1);
            text("leak 5 ; soak 4 ; dries 6 ;", -100);
            text("soak 4 ; dries 6 ; leak 5 ;", -109);
            text("soak 4 ; leak 5 ;", -117);
            text("soak 4 ; leak 5 ; dries 6", -125);
            text("soak 4 leak 5 ; dries 6 ;", -107);
            text("soak 4 ; leak 5 ; dries 6 ; ;", -128);
            text("soak 4 ; leak 5 ; dries 6 ; soak 4 ;", -128);
            text("soak ; leak 5 ; dries 6 ;", -105);
            DriedOut x = Boats.ruled("soak 4;leak 5;dries 6;");
            x.plank(0, 50010, 0);
            x.plank(0, 50010, 70);
            due("soak", x.told(0, 4), 4);
            due("leak", x.comes(), 35);
            x.air(1);
            due("dries", x.told(0, 2), 44);
        });
        S.of("E: AND { or AND }.", () -> {
            value("0 or 0", 0);
            value("0 or 7 or 0", 1);
            value("2 or 1 and 0", 1);
            value("0 and 1 or 1", 1);
            fault("1 or", 4);
            fault("or 1", 0);
            fault("1 or or 1", 5);
        });
        S.of("AND: NOT { and NOT }.", () -> {
            value("3 and 4", 1);
            value("3 and 4 and 0", 0);
            value("not 0 and not 0", 1);
            value("not 0 and 0", 0);
            fault("1 and", 5);
            fault("and 1", 0);
            fault("1 and and 1", 6);
        });
        S.of("NOT: not NOT, or SUM, perhaps < or = and a SUM.", () -> {
            value("not 5", 0);
            value("not not 5", 1);
            value("not 4 < 5", 0);
            value("1 + 2 = 3", 1);
            value("2 < 1 + 2", 1);
            value("2 + 2 < 1 + 2", 0);
            fault("1 < 2 < 3", 6);
            fault("1 = 1 = 1", 6);
            fault("1 < not 0", 4);
            fault("1 + not 0", 4);
            fault("1 <", 3);
            fault("not", 3);
            fault("= 1", 0);
        });
        S.of("SUM: TERM { + or - TERM }.", () -> {
            value("20 - 5 - 3", 12);
            value("20 - 5 + 3", 18);
            value("2 + 3 * 4", 14);
            value("20 - 2 * 3 - 1", 13);
            fault("1 +", 3);
            fault("+ 1", 0);
            fault("1 + + 1", 4);
            fault("1 + ;", 4);
        });
        S.of("TERM: ONE { * ONE }.", () -> {
            value("2 * 3 * 4", 24);
            value("2 * - 3 * - 4", 24);
            value("old * old", 36);
            fault("1 *", 3);
            fault("* 1", 0);
            fault("1 * * 1", 4);
            fault("2 * not 1", 4);
        });
        S.of("ONE: a NUMBER, a NAME, - ONE, ( E ).", () -> {
            value("8", 8);
            value("old", 6);
            value("- - 8", 8);
            value("9 - - old", 15);
            value("- 3 + 5", 2);
            value("( 2 + 3 ) * ( 1 or 0 )", 5);
            value("( not 0 ) + 4", 5);
            value("- ( 3 - 10 )", 7);
            fault("( )", 2);
            fault("( 1", 3);
            fault("1 )", 2);
            fault("( 1 ) 2", 6);
            fault("-", 1);
        });
        S.of("NAMES are wet dry near old day salt;", () -> {
            value("wet", 40);
            value("dry", 60);
            value("near", 1);
            value("old", 6);
            value("day", 21);
            value("salt", 3);
            for (String none : new String[] {"wets", "we", "d", "age", "number", "true", "width"}) fault(none, 0);
        });
        S.of("soak, leak, dries, or, and, not are KEYS.", () -> {
            for (String key : new String[] {"soak", "leak", "dries", "or", "and"}) {
                fault(key, 0);
                fault("1 + " + key, 4);
                fault("wet " + key + " ", key.equals("or") || key.equals("and") ? 5 + key.length() : 4);
            }
            fault("wet not 1", 4);
            text("wet 1;leak 1;dries 1;", -100);
            text("not 1;leak 1;dries 1;", -100);
        });
        S.of("An E is an int (32 bits, wrapping):", () -> {
            value("5000 * 5000 * 100 < 0", 1);
            value("5000 * 5000 * 80 < 0", 0);
            // 2 by 32 is 65536 times 65536: nothing stays
            value("256 * 256 * 256 * 256 + 9", 9);
            value("256 * 256 * 256 * 128 < 0", 1);
            value("- ( 256 * 256 * 256 * 128 ) = 256 * 256 * 256 * 128", 1);
            value("256 * 256 * 256 * 128 - 1 = 256 * 256 * 256 * 127 + 256 * 256 * 255 + 256 * 255 + 255", 1);
            value("0 - 7 + 9", 2);
        });
        S.of("of or, and, not, <, = 1 or 0 (what is not 0 is true).", () -> {
            value("( 7 or 0 ) + ( 0 or 9 ) + ( 8 or 8 ) + ( 0 or 0 )", 3);
            value("( 7 and 0 ) + ( 0 and 9 ) + ( 8 and 8 ) + ( 0 and 0 )", 1);
            value("( not 0 ) + ( not 4 ) + ( not - 4 )", 1);
            value("( 3 < 4 ) + ( 4 < 4 ) + ( 5 < 4 ) + ( - 5 < 4 )", 2);
            value("( 3 = 4 ) + ( 4 = 4 ) + ( - 4 = 4 )", 1);
            value("- 1 and - 1", 1);
            value("0 or - 1", 1);
        });
    }

    private static void faults() {
        S.of("FAULT: the place of the first byte of the first TOKEN that can't stand there", () -> {
            fault("wet dry", 4);
            fault("1 + ( 2 < 3 near )", 12);
            fault("wet + ) ( (", 6);
            fault("nothing + 99999", 0);
            text("  soak 1;leaks 2;dries 3;", -109);
            text(";", -100);
        });
        S.of("(the text's size, if it ends too early),", () -> {
            text("", -100);
            text("\n \n", -103);
            text("soak", -104);
            text("soak 12", -107);
            text("soak 12;leak wet + ", -119);
            text("soak 12;leak ( 1 ", -117);
            text("soak 1;leak 1;dries 1", -121);
            text("soak 1" + " ".repeat(154), -260);
        });
        S.of("also of a byte that begins none,", () -> {
            fault("wet ? 1", 4);
            fault("?", 0);
            fault("1 + \u00ff", 4);
            text("soak 1;leak 1;dries 1;.", -122);
            text("\u0001", -100);
        });
        S.of("a WORD that is neither KEY nor NAME,", () -> {
            fault("moist", 0);
            fault("wet + drier", 6);
            fault("1 orr 2", 2);
            text("soa 1;leak 1;dries 1;", -100);
            text("soak 1;leak 1;dry 1;", -114);
            text("soak 1;leak 1;dri 1;", -114);
        });
        S.of("a NUMBER that is too long,", () -> {
            fault("10000", 0);
            fault("wet < 12345678", 6);
            fault("1 00000", 2);
            stands("9999");
        });
        S.of("a ( , a not, a - ahead of a ONE while 5 of these are open", () -> {
            stands("(((((1)))))");
            fault("((((((1))))))", 5);
            stands("-----1");
            fault("------1", 5);
            stands("not not not not not 1");
            fault("not not not not not not 1", 20);
            stands("not(-(not 1))");
            fault("not(-(not -1))", 10);
            fault("not(-(not(1)))", 9);
            fault("not(-(not not 1))", 10);
            // a - that is no ONE's is none of these
            stands("(((((1-2-3-4)))))");
            fault("(((((1- -2)))))", 8);
        });
        S.of("(a ( till its ) , not and - till what they belong to ends).", () -> {
            stands("(((((1)))))+(((((2)))))");
            stands("((((1)))+((2)))");
            stands("-----1+-----2*-----3");
            stands("not not not not not 1 or not not not not not 2 and not not not not not 3");
            // a not goes on behind <, a - doesn't go on behind its ONE
            fault("not 1<(((((1)))))", 10);
            stands("not 1<((((1))))");
            stands("-1<(((((1)))))");
            stands("not 1 and (((((1)))))");
            fault("not 1+(((((1)))))", 10);
        });
    }

    private static void whatTextsSay() {
        S.of("There are 6 TEXTS at most, TEXT 0 with them.", () -> {
            DriedOut x = new DriedOut();
            due("TEXTS", x.count(4), 1);
            due("TEXT 1 is THE RULE", x.force(1), BAD);
            for (int i = 1; i < 6; i++) due("TEXT " + i, Boats.text(x, "soak " + i + ";leak 0;dries 0;"), i);
            due("TEXTS", x.count(4), 6);
            due("a seventh", Boats.text(x, Boats.STILL), FULL);
            due("TEXTS", x.count(4), 6);
            due("THE TAPE stays", x.count(5), Boats.STILL.length());
            Boats.planks(x, 1);
            for (int i = 5; i > 0; i--) {
                due("THE RULE was", x.force(i), i == 5 ? 0 : i + 1);
                told(x, 4, i);
            }
            due("force(6)", x.force(6), BAD);
            due("force(-1)", x.force(-1), BAD);
            due("THE RULE", x.count(6), 1);
        });
        S.of("Of a PLANK: wet: its WET; dry: 100 less that;", () -> {
            DriedOut x = Boats.ruled("soak wet;leak 0;dries dry;");
            for (int wet : new int[] {0, 30, 50, 81, 100}) x.plank(0, 1000 * wet + 10, 0);
            told(x, 4, 0, 30, 50, 81, 100);
            x.air(1);
            told(x, 2, 0, 0, 0, 62, 100);
        });
        S.of("near: how many PLANKS side by side with it (2 at most) are wetter;", () -> {
            DriedOut x = Boats.ruled("soak near;leak 0;dries 0;");
            for (int wet : new int[] {9, 8, 9, 9, 2, 3, 1}) x.plank(0, 1000 * wet + 10, 0);
            told(x, 4, 0, 2, 0, 0, 2, 0, 1);
            x.set(0, 5, 2);
            told(x, 4, 0, 2, 0, 0, 1, 0, 1);
        });
        S.of("old: its NUMBER; day: the DAY; salt: SALT.", () -> {
            DriedOut x = Boats.ruled("soak old*10+salt;leak day;dries 0;");
            x.plank(0, 10, 3);
            x.plank(0, 10, 18);
            told(x, 4, 30, 80);
            due("DAY 0", x.comes(), 0);
            x.set(5, 0, 7);
            told(x, 4, 37, 87);
            x.air(12);
            due("DAY 12", x.comes(), 12);
            due("behind 3 more", x.run(3, 0, 4), 13 + 14 + 15);
        });
        S.of("soak, dries: 0 .. 100, else the bound.", () -> {
            int[][] cases = {{0, 0}, {1, 1}, {64, 64}, {99, 99}, {100, 100}, {101, 100}, {9999, 100}};
            for (int[] c : cases) {
                DriedOut x = Boats.ruled("soak " + c[0] + ";leak 0;dries " + c[0] + ";");
                x.plank(4, 100010, 0);
                told(x, 4, 2 * c[1]);
                x.air(1);
                told(x, 2, 100 - c[1]);
            }
            DriedOut below = Boats.ruled("soak 0-5;leak 0;dries -5;");
            below.plank(0, 50010, 0);
            told(below, 4, 0);
            below.air(1);
            told(below, 2, 50);
        });
        S.of("leak (0 .. 999, else the bound; of the PLANK below a GAP): how much comes in a day for each 1 that it is OPEN.", () -> {
            int[][] cases = {{0, 0}, {1, 1}, {250, 250}, {998, 998}, {999, 999}, {1000, 999}, {9999, 999}};
            for (int[] c : cases) {
                DriedOut x = Boats.planks(Boats.ruled("soak 0;leak " + c[0] + ";dries 0;"), 2);
                x.set(2, 0, 6);
                due("leak " + c[0], x.comes(), 6 * c[1]);
            }
            DriedOut below = Boats.planks(Boats.ruled("soak 0;leak -1;dries 0;"), 2);
            below.set(2, 0, 6);
            due("leak -1", below.comes(), 0);
            DriedOut each = Boats.ruled("soak 0;leak wet;dries 0;");
            each.plank(0, 7010, 0);
            each.plank(0, 20010, 40);
            each.plank(0, 90010, 50);
            due("of the ones below", each.comes(), 4 * 7 + 5 * 20);
        });
        S.of("TEXT 0, at first THE RULE, is: soak 2 + near * 3 + ( 50 < dry ) * 4 ; leak 2 + salt ; dries 1 + ( 50 < wet ) * 2 ;", () -> {
            DriedOut x = new DriedOut();
            due("THE RULE", x.count(6), 0);
            for (int wet : new int[] {50, 49, 60, 50, 51}) x.plank(0, 1000 * wet + 10, 10);
            // dry: 50, 51, 40, 50, 49; near: 0, 2, 0, 2, 0
            told(x, 4, 2, 12, 2, 8, 2);
            due("COMES IN", x.comes(), 8);
            x.set(5, 0, 5);
            due("COMES IN", x.comes(), 28);
            x.air(1);
            told(x, 2, 49, 48, 57, 49, 48);
        });
    }

    // ==== 2

    private static void gapsInWater() {
        S.of("LEFT of a GAP: how wide it is, less what both its PLANKS GROW, together, by 2 (cut), less STUFFING.", () -> {
            DriedOut x = new DriedOut();
            // they grow 4, 7, 1
            x.plank(0, 40200, 0);
            x.plank(0, 70200, 300);
            x.plank(0, 10200, 120);
            gaps(x, 3, 25, 8);
            x.set(3, 0, 20);
            gaps(x, 3, 5, 8);
            x.set(3, 1, 11);
            gaps(x, 3, 5, 0);
            gaps(x, 4, 0, 3);
            x.set(2, 1, 16);
            gaps(x, 3, 5, 1);
            // by 2 together, not each: 7 and 9
            x.set(0, 2, 90);
            gaps(x, 3, 5, 0);
            gaps(x, 4, 0, 3);
        });
        S.of("OPEN: LEFT, 0 at least.", () -> {
            DriedOut x = Boats.planks(new DriedOut(), 4);
            for (int g = 0; g < 3; g++) x.set(2, g, 10);
            for (int g = 0; g < 3; g++) x.set(3, g, 9 + g);
            gaps(x, 3, 1, 0, 0);
            due("how many are OPEN", x.count(1), 1);
            due("COMES IN", x.comes(), 2);
        });
        S.of("PRESS: 0 less LEFT, 0 at least.", () -> {
            DriedOut x = Boats.planks(new DriedOut(), 4);
            for (int g = 0; g < 3; g++) x.set(2, g, 10);
            for (int g = 0; g < 3; g++) x.set(3, g, 9 + g);
            gaps(x, 4, 0, 0, 1);
            x.set(3, 2, 52);
            gaps(x, 4, 0, 0, 42);
        });
        S.of("COMES IN a day: OPEN times leak of all GAPS, and 10 for each of all NAILS.", () -> {
            DriedOut x = Boats.planks(Boats.ruled("soak 0;leak 3;dries 0;"), 4);
            due("nothing", x.comes(), 0);
            x.set(2, 0, 8);
            x.set(2, 2, 11);
            x.set(3, 1, 30);
            due("by gaps", x.comes(), 57);
            x.set(1, 0, 2);
            x.set(1, 3, 5);
            due("by nails, too", x.comes(), 127);
            x.set(2, 0, 0);
            x.set(2, 2, 0);
            due("by nails", x.comes(), 70);
        });
    }

    private static void days() {
        S.of("A DAY IN WATER: WET of each PLANK is more by what it TAKES UP (all by what was so as the day began; 100 at most).", () -> {
            DriedOut x = Boats.ruled("soak 1+near*10;leak 0;dries 0;");
            for (int wet : new int[] {5, 4, 3, 100}) x.plank(0, 1000 * wet + 10, 0);
            x.lay(1);
            told(x, 2, 6, 15, 24, 100);
            x.lay(1);
            told(x, 2, 17, 26, 35, 100);
            DriedOut soft = Boats.ruled("soak 30;leak 0;dries 0;");
            soft.plank(4, 39010, 0);
            soft.plank(4, 40010, 0);
            soft.plank(4, 41010, 0);
            soft.lay(1);
            told(soft, 2, 99, 100, 100);
        });
        S.of("Then each GAP that is FAST, and whose PRESS is more than the lesser one of what both its PLANKS BEAR, isn't FAST any more, and is wider by a quarter (cut) of its PRESS.", () -> {
            // what they bear: 12, 6, 24, 0
            DriedOut x = Boats.ruled(Boats.STILL);
            int[] kinds = {0, 1, 2, 4}, numbers = {2, 1, 2, 0};
            for (int i = 0; i < 4; i++) x.plank(kinds[i], 10, 30 + numbers[i]);
            told(x, 5, 12, 6, 24, 0);
            x.set(3, 0, 9);
            x.set(3, 1, 9);
            x.set(3, 2, 3);
            due("pressed by as much", x.lay(1), 0);
            for (int g = 0; g < 3; g++) x.set(3, g, 10);
            gaps(x, 4, 7, 7, 7);
            x.set(4, 1, 0);
            due("pressed by 1 more; one is gone before", x.lay(1), 2);
            gaps(x, 2, 0, 0, 0);
            gaps(x, 0, 4, 3, 4);
            due("once only", x.lay(60), 0);
            gaps(x, 0, 4, 3, 4);
            // it is pressed as the day ends, not as it began: both grow 15 then, and 10 by 4 is 2
            DriedOut ends = Boats.ruled("soak 60;leak 0;dries 0;");
            ends.plank(4, 300, 0);
            ends.plank(4, 300, 50);
            due("PRESS as it begins", ends.gap(0, 4), 0);
            due("fastenings", ends.run(1, 0, 3), 1);
            due("PRESS as it ends", ends.run(1, 0, 1), 15 - 5 - 2);
        });
        S.of("A DAY IN THE AIR: WET of each PLANK is less by dries (all as the day began; 0 at least).", () -> {
            DriedOut x = Boats.ruled("soak 0;leak 0;dries 2+near*10;");
            for (int wet : new int[] {50, 49, 48, 1}) x.plank(wet == 50 ? 4 : 3, 1000 * wet + 10, 5);
            x.set(3, 0, 90);
            x.air(1);
            told(x, 2, 48, 37, 36, 0);
            x.air(1);
            told(x, 2, 46, 25, 24, 0);
            due("no fastening goes", x.count(2), 3);
            due("PRESS", x.gap(0, 4), 90);
        });
        S.of("Then the DAY is 1 more (9999 at most).", () -> {
            DriedOut x = new DriedOut();
            x.lay(1);
            due("DAY", x.count(3), 1);
            due("DAY", x.air(1), 2);
            Boats.aired(x, 9998);
            x.lay(1);
            due("DAY", x.count(3), 9999);
            due("DAY", x.air(1), 9999);
            DriedOut later = Boats.ruled("soak day;leak 0;dries day;");
            later.plank(0, 10, 0);
            later.lay(4);
            due("by DAYS 0 .. 3", later.told(0, 2), 6);
            later.air(1);
            due("by DAY 4", later.told(0, 2), 2);
        });
        S.of("RUN of n DAYS (1 .. 60) IN WATER from now, nothing changed: OPEN, PRESS of a GAP, WET of a PLANK then; how many fastenings went; what CAME IN in all (each day as it ends).", TermsTest::aRun);
        S.of("LAID: it is so.", () -> {
            DriedOut x = growing();
            due("lay(0)", x.lay(0), BAD);
            due("lay(61)", x.lay(61), BAD);
            due("fastenings", x.lay(2), 0);
            told(x, 2, 20, 20, 20);
            gaps(x, 3, 0, 4);
            due("fastenings", x.lay(5), 0);
            gaps(x, 0, 2, 6);
            gaps(x, 4, 5, 1);
            due("fastenings", x.lay(1), 1);
            told(x, 2, 80, 80, 80);
            gaps(x, 0, 3, 6);
            gaps(x, 2, 0, 1);
            gaps(x, 4, 5, 2);
            due("DAY", x.count(3), 8);
            due("fastenings", x.lay(60), 0);
            gaps(x, 0, 3, 6);
            gaps(x, 4, 7, 4);
            due("DAY", x.count(3), 68);
        });
        S.of("AIRED: n DAYS IN THE AIR are so.", () -> {
            DriedOut x = Boats.ruled("soak 0;leak 0;dries 7;");
            x.plank(0, 100010, 0);
            due("air(0)", x.air(0), BAD);
            due("air(61)", x.air(61), BAD);
            due("DAY", x.air(3), 3);
            told(x, 2, 79);
            due("DAY", x.air(11), 14);
            told(x, 2, 2);
            due("DAY", x.air(60), 74);
            told(x, 2, 0);
        });
        S.of("TIGHT: the first of DAYS 0 (now) .. 60 IN WATER behind which all GAPS are not OPEN; NONE.", () -> {
            due("no GAP", Boats.planks(new DriedOut(), 1).tight(), 0);
            // 200 wide, 10 WET more a day: each grows 1 more a day
            DriedOut x = Boats.ruled("soak 10;leak 1;dries 0;");
            x.plank(0, 200, 0);
            x.plank(0, 200, 30);
            x.plank(0, 200, 70);
            due("the widest one is last", x.tight(), 7);
            x.set(3, 1, 3);
            due("stuffed", x.tight(), 4);
            x.set(3, 0, 3);
            x.set(3, 1, 7);
            due("now", x.tight(), 0);
            x.set(2, 0, 14);
            due("never", x.tight(), NONE);
            due("nothing changed", x.count(3), 0);
        });
        S.of("OUT: the first of them behind which COMES IN is no more than PUMP; NONE.", () -> {
            DriedOut x = Boats.ruled("soak 10;leak 60;dries 0;");
            x.plank(0, 200, 0);
            x.plank(0, 200, 120);
            due("720, 660, 600, 540, 480", x.out(), 4);
            x.set(6, 0, 480);
            due("as much", x.out(), 4);
            x.set(6, 0, 479);
            due("1 less", x.out(), 5);
            x.set(6, 0, 720);
            due("now", x.out(), 0);
            x.set(6, 0, 119);
            due("never", x.out(), NONE);
            x.set(6, 0, 120);
            due("as wet as can be", x.out(), 10);
        });
    }

    /** Three 200 wide, of which each grows 1 more a day for 10 days; GAPS of 2 and 6, that bear 5 and 10. */
    private static DriedOut growing() {
        DriedOut x = Boats.ruled("soak 10;leak 10;dries 0;");
        x.plank(1, 200, 0);
        x.plank(0, 200, 20);
        x.plank(0, 200, 60);
        return x;
    }

    private static void aRun() {
        DriedOut x = growing();
        int[] n = {1, 2, 3, 4, 5, 6, 7, 8, 9, 10, 60};
        int[] open0 = {1, 0, 0, 0, 0, 0, 0, 0, 0, 0, 0}, open1 = {5, 4, 3, 2, 1, 0, 0, 0, 0, 0, 0};
        // behind day 8 the first GAP is 1 wider: a quarter of 6
        int[] press0 = {0, 0, 1, 2, 3, 4, 5, 5, 6, 7, 7}, press1 = {0, 0, 0, 0, 0, 0, 1, 2, 3, 4, 4};
        int[] went = {0, 0, 0, 0, 0, 0, 0, 1, 1, 1, 1}, cameIn = {60, 100, 130, 150, 160, 160, 160, 160, 160, 160, 160};
        for (int i = 0; i < n.length; i++) {
            String run = "run(" + n[i] + ", ";
            due(run + "0, 0)", x.run(n[i], 0, 0), open0[i]);
            due(run + "1, 0)", x.run(n[i], 1, 0), open1[i]);
            due(run + "0, 1)", x.run(n[i], 0, 1), press0[i]);
            due(run + "1, 1)", x.run(n[i], 1, 1), press1[i]);
            for (int plank = 0; plank < 3; plank++) due(run + plank + ", 2)", x.run(n[i], plank, 2), Math.min(100, 10 * n[i]));
            due(run + "0, 3)", x.run(n[i], 0, 3), went[i]);
            due(run + "-7, 3)", x.run(n[i], -7, 3), went[i]);
            due(run + "0, 4)", x.run(n[i], 0, 4), cameIn[i]);
            due(run + "99, 4)", x.run(n[i], 99, 4), cameIn[i]);
        }
        int[][] none = {{0, 0, 0}, {61, 0, 0}, {-1, 0, 3}, {0, 0, 4}, {61, 0, 4}, {1, 2, 0}, {1, -1, 0}, {1, 2, 1}, {1, -1, 1},
            {1, 3, 2}, {1, -1, 2}, {1, 0, 5}, {1, 0, -1}};
        for (int[] c : none) due("run(" + c[0] + ", " + c[1] + ", " + c[2] + ")", x.run(c[0], c[1], c[2]), NO);
        told(x, 2, 0, 0, 0);
        gaps(x, 0, 2, 6);
        gaps(x, 2, 1, 1);
        due("DAY", x.count(3), 0);
    }

    private static void stuffing() {
        S.of("SACK: COMES IN now, less COMES IN, had the GAP that is most OPEN now (of like ones the first) v (0 .. 100) more STUFFING (100 at most).", () -> {
            due("no GAP", Boats.planks(new DriedOut(), 1).sack(5), NO);
            DriedOut x = leaking();
            int[] v = {0, 1, 6, 20, 21, 100}, want = {0, 5, 30, 100, 100, 100};
            for (int i = 0; i < v.length; i++) due("sack(" + v[i] + ")", x.sack(v[i]), want[i]);
            due("sack(101)", x.sack(101), NO);
            due("sack(-1)", x.sack(-1), NO);
            due("nothing changed", x.comes(), 8 * 2 + 20 * 5 + 20 * 3);
            x.set(3, 1, 1);
            due("another one is most OPEN", x.sack(6), 18);
            x.set(2, 2, 200);
            x.set(3, 2, 95);
            due("4 more", x.sack(4), 12);
            due("5 more", x.sack(5), 15);
            due("no more than 100 have room", x.sack(10), 15);
            for (int g = 0; g < 3; g++) x.set(2, g, 0);
            due("none is OPEN", x.sack(6), 0);
        });
        S.of("STUFF FIRST: the GAP by which, were its STUFFING v (1 .. 100) more (100 at most), fewest fastenings would go in a RUN of 60 DAYS; of like ones least COMES IN behind them; then the first; NONE: there is no GAP.", TermsTest::stuffFirst);
        S.of("MOST: the greatest STUFFING (0 .. 100) of a GAP with which no more fastenings go in a RUN of 60 DAYS than with STUFFING 0 in it.", () -> {
            DriedOut x = Boats.ruled(Boats.STILL);
            x.plank(0, 200, 3);
            x.plank(0, 200, 76);
            x.plank(0, 200, 2000);
            due("what it bears is 13", x.most(0), 20);
            due("it is wide", x.most(1), 100);
            x.set(3, 0, 90);
            x.set(3, 1, 5);
            due("what is in it does not matter", x.most(0), 20);
            due("nothing changed", x.gap(0, 1), 90);
            due("most(2)", x.most(2), BAD);
            due("most(-1)", x.most(-1), BAD);
            Boats.rule(x, "soak 10;leak 0;dries 0;");
            due("they grow 10 in 60 DAYS", x.most(0), 10);
            x.set(2, 0, 0);
            due("less wide", x.most(0), 3);
            x.set(4, 0, 0);
            due("it is gone", x.most(0), 100);
            x.plank(4, 200, 0);
            due("it goes without any", x.most(2), 100);
        });
        S.of("HOW FAR, with a HOLD (0 .. 9999): HOLD by (COMES IN by 24, rounded up), cut, 999 at most (999 also, if nothing COMES IN).", () -> {
            DriedOut x = Boats.planks(new DriedOut(), 1);
            due("nothing COMES IN", x.far(0), 999);
            due("nothing COMES IN", x.far(9999), 999);
            int[][] cases = {{12, 500, 100}, {12, 504, 100}, {12, 505, 101}, {12, 4, 0}, {12, 0, 0}, {13, 500, 83}, {11, 500, 100},
                {1, 998, 998}, {1, 999, 999}, {1, 1000, 999}, {1, 9999, 999}, {99, 9999, 238}, {24, 100, 10}, {25, 100, 9}};
            for (int[] c : cases) {
                x.set(1, 0, c[0]);
                due("far(" + c[1] + ") with NAILS " + c[0], x.far(c[1]), c[2]);
            }
            due("far(-1)", x.far(-1), BAD);
            due("far(10000)", x.far(10000), BAD);
        });
        S.of("NO GAP: 10 times all NAILS by COMES IN (lowest terms; 0 by 1, if nothing COMES IN).", () -> {
            DriedOut x = Boats.planks(Boats.ruled(Boats.STILL), 2);
            noGap(x, 0, 1);
            x.set(2, 0, 6);
            noGap(x, 0, 1);
            x.set(1, 0, 3);
            noGap(x, 5, 6);
            x.set(1, 1, 9);
            noGap(x, 20, 21);
            x.set(2, 0, 7);
            noGap(x, 120, 127);
            x.set(2, 0, 180);
            noGap(x, 2, 5);
            x.set(2, 0, 0);
            noGap(x, 1, 1);
            due("nails(2)", x.nails(2), NO);
            due("nails(-1)", x.nails(-1), NO);
        });
        S.of("AN IMAGE keeps WET, NAILS of PLANKS, GAPS, STUFFING, what is FAST, the DAY, SALT, PUMP, THE RULE (PLANKS that came since stay).", TermsTest::anImage);
    }

    /** GAPS of 8, 20, 20 above PLANKS by which 2, 5, 3 come in a day for each 1. */
    private static DriedOut leaking() {
        DriedOut x = Boats.ruled("soak 0;leak old;dries 0;");
        for (int more : new int[] {2, 85, 203, 200}) x.plank(0, 10, more);
        return x;
    }

    private static void stuffFirst() {
        due("no GAP", Boats.planks(new DriedOut(), 1).first(5), NONE);
        due("no GAP, BAD", new DriedOut().first(101), BAD);
        // GAPS of 5 that bear 11, 12, 10, above PLANKS by which 1, 4, 2 come in a day for each 1
        DriedOut x = Boats.ruled("soak 0;leak old;dries 0;");
        for (int more : new int[] {1, 54, 52, 50}) x.plank(0, 10, more);
        due("first(0)", x.first(0), BAD);
        due("first(101)", x.first(101), BAD);
        due("least COMES IN", x.first(3), 1);
        due("the only one whose fastening stays", x.first(17), 1);
        due("none stays, and least COMES IN", x.first(18), 1);
        x.set(4, 0, 0);
        due("fewest go, though more COMES IN", x.first(18), 0);
        due("none goes", x.first(17), 1);
        Boats.rule(x, Boats.STILL);
        due("all alike: the first", x.first(3), 0);
        due("nothing changed", x.comes(), 15);
        // 2 are all that have room in the first one
        DriedOut full = Boats.planks(Boats.ruled(Boats.STILL), 3);
        full.set(2, 0, 200);
        full.set(3, 0, 98);
        full.set(2, 1, 60);
        due("2 more in each", full.first(2), 0);
        due("3 more in the other one", full.first(3), 1);
        // as they grow: behind 60 DAYS they are 1 and 2 OPEN, though 11 and 12 now
        DriedOut grown = Boats.ruled("soak 10;leak 1;dries 0;");
        for (int more : new int[] {0, 110, 120}) grown.plank(0, 200, more);
        due("behind 60 DAYS", grown.first(3), 1);
        due("1 in each", grown.first(1), 0);
    }

    private static void noGap(DriedOut x, long above, long below) {
        due("above the line", x.nails(0), above);
        due("below the line", x.nails(1), below);
    }

    private static void anImage() {
        DriedOut x = Boats.ruled("soak 9;leak 9;dries 9;");
        due("there is none", x.back(), STATE);
        for (int i = 0; i < 3; i++) x.plank(0, 40010 + 1000 * i, 30);
        for (int i = 0; i < 3; i++) x.set(1, i, 5 + i);
        x.set(3, 1, 20);
        x.set(4, 0, 0);
        x.set(5, 0, 3);
        x.set(6, 0, 77);
        x.air(1);
        due("image", x.image(), 1);
        x.force(0);
        x.lay(30);
        x.plank(4, 60020, 120);
        for (int what = 0; what < 7; what++) x.set(what, 1, what == 4 ? 0 : 2);
        x.set(4, 0, 1);
        x.set(1, 3, 8);
        x.set(3, 2, 4);
        due("back", x.back(), 1);
        told(x, 2, 31, 32, 33, 60);
        told(x, 6, 5, 6, 7, 8);
        gaps(x, 0, 3, 3, 12);
        gaps(x, 1, 0, 20, 4);
        gaps(x, 2, 0, 1, 1);
        int[] counts = {4, 2, 2, 1, 2, 0, 1, 3, 77, 26};
        for (int i = 0; i < counts.length; i++) due("count(" + i + ")", x.count(i), counts[i]);
        x.air(5);
        due("back once more", x.back(), 1);
        told(x, 2, 31, 32, 33, 15);
    }

    // ==== 3

    private static void sheets() {
        S.of("SHEETS 0 .. 3 are rows of numbers, or missing (as all are at first): of sort 0 bytes, 1 shorts, 2 ints.", TermsTest::rowsOfNumbers);
    }

    private static void rowsOfNumbers() {
        DriedOut x = new DriedOut();
        for (int i = 0; i < 4; i++) due("missing at first: cell(" + i + ", 0, 1)", x.cell(i, 0, 1), -11);
        for (int none : new int[] {-1, 4}) {
            due("sheet(" + none + ", 0, 3)", x.sheet(none, 0, 3), BAD);
            due("cell(" + none + ", 0, 1)", x.cell(none, 0, 1), BAD);
            due("copy from " + none, x.copy(none, 0, 0, 0, 1), BAD);
            due("copy to " + none, x.copy(0, 0, none, 0, 1), BAD);
            due("planks(" + none + ", 0, 0, 1)", x.planks(none, 0, 0, 1), BAD);
        }
        due("sort 3", x.sheet(0, 3, 3), BAD);
        due("sort -2", x.sheet(0, -2, 3), BAD);
        for (int sort = 0; sort < 3; sort++) due("sort " + sort, x.sheet(sort, sort, 3), 1);
        // bytes have the 8 lowest bits of 300 and of -156, shorts the 16 lowest ones of 75736, ints all
        int[][] v = {{0, -156, 300}, {2, 75736, 1048}, {4, 100300, 2009}};
        int[][] want = {{0, 100, 0, 4, -1}, {2, 200, 10, 8, 104}, {4, 300, 100, 9, 200}};
        int[] asked = {0, 1, 2, 7};
        for (int sort = 0; sort < 3; sort++) {
            for (int i = 0; i < 3; i++) due("cell(" + sort + ", " + i + ", ..)", x.cell(sort, i, v[sort][i]), 1);
            due("a place behind", x.cell(sort, 3, 1), -12);
            due("taken for another sort", x.planks(sort, (sort + 1) % 3, 0, 1), -13);
            due("PLANKS of sort " + sort, x.planks(sort, sort, 0, 1), 1);
            for (int k = 0; k < 4; k++) due("told(" + sort + ", " + asked[k] + ")", x.told(sort, asked[k]), want[sort][k]);
            if (sort > 0) due("its GAP", x.gap(sort - 1, 0), want[sort][4]);
        }
        due("missing again", x.sheet(1, -1, 999), 1);
        due("nothing there", x.planks(1, 1, 0, 1), -11);
        due("the others stay", x.planks(2, 2, 0, 1), 1);
    }
}
