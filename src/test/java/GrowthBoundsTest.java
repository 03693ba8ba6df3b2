/** The boundary cases of what a PLANK GROWS, TAKES UP and BEARS, by its KIND. */
public final class GrowthBoundsTest {
    private static final Sentences S = new Sentences();
    private static final int PLANK = 0, LARCH = 1, OAK = 2, PAINTED = 3, SOFT = 4, NEW = 5;

    public static void main(String[] args) {
        S.of("PLANK: WIDTH times WET by 2000", GrowthBoundsTest::plankGrows);
        S.of("LARCH: NUMBER by 3 (cut) more than a PLANK", () -> larchGrows(LARCH));
        S.of("OAK: half (cut) of a PLANK's", GrowthBoundsTest::oakGrows);
        S.of("PAINTED as a LARCH", () -> larchGrows(PAINTED));
        S.of("SOFT: a PLANK's less NUMBER", GrowthBoundsTest::softGrows);
        S.of("NEW: 1 more than an OAK", GrowthBoundsTest::newGrows);
        S.of("TAKES UP: PLANK: what soak says", () -> takesAsPlank(PLANK));
        S.of("LARCH as a PLANK", () -> takesAsPlank(LARCH));
        S.of("TAKES UP: OAK: half (cut) of a PLANK's", () -> takesAsOak(OAK));
        S.of("PAINTED: a LARCH's less NUMBER", GrowthBoundsTest::paintedTakes);
        S.of("SOFT: twice a PLANK's", GrowthBoundsTest::softTakes);
        S.of("NEW as an OAK", () -> takesAsOak(NEW));
        S.of("BEARS: PLANK: 10 and NUMBER", () -> bears(PLANK, 10, 19));
        S.of("BEARS: LARCH: 5 less than a PLANK", () -> bears(LARCH, 5, 14));
        S.of("BEARS: OAK: twice a PLANK's", () -> bears(OAK, 20, 38));
        S.of("BEARS: PAINTED as a LARCH", () -> bears(PAINTED, 5, 14));
        S.of("BEARS: SOFT: 0", () -> bears(SOFT, 0, 0));
        S.of("BEARS: NEW: an OAK's and 5", () -> bears(NEW, 25, 43));
        S.of("All 0 at least, in the end", GrowthBoundsTest::nothingBelowZero);
        S.of("Quotients are cut toward 0", GrowthBoundsTest::quotientsAreCut);
        S.end();
    }

    private static void grows(int kind, int width, int wet, int number, int want) {
        DriedOut x = new DriedOut();
        x.plank(kind, 1000 * wet + width, number);
        S.due("GROWS, KIND " + kind + ", WIDTH " + width + ", WET " + wet + ", NUMBER " + number, x.told(0, 3), want);
    }

    private static void takes(int kind, int number, int soak, int want) {
        DriedOut x = Boats.ruled("soak " + soak + ";leak 0;dries 0;");
        x.plank(kind, 10, number);
        S.due("TAKES UP, KIND " + kind + ", NUMBER " + number + ", soak " + soak, x.told(0, 4), want);
    }

    private static void bears(int kind, int withNone, int withNine) {
        DriedOut x = new DriedOut();
        x.plank(kind, 100300, 0);
        x.plank(kind, 10, 9);
        S.due("BEARS, KIND " + kind + ", NUMBER 0", x.told(0, 5), withNone);
        S.due("BEARS, KIND " + kind + ", NUMBER 9", x.told(1, 5), withNine);
    }

    private static void plankGrows() {
        grows(PLANK, 300, 0, 0, 0);
        grows(PLANK, 10, 100, 0, 0);
        // 1980, 1998, 2000
        grows(PLANK, 20, 99, 0, 0);
        grows(PLANK, 27, 74, 0, 0);
        grows(PLANK, 20, 100, 0, 1);
        // 3999, 4000
        grows(PLANK, 93, 43, 0, 1);
        grows(PLANK, 80, 50, 0, 2);
        // 29900, 30000
        grows(PLANK, 299, 100, 0, 14);
        grows(PLANK, 300, 100, 0, 15);
        grows(PLANK, 300, 100, 9, 15);
    }

    private static void larchGrows(int kind) {
        int[] more = {0, 0, 0, 1, 1, 1, 2, 2, 2, 3};
        for (int number = 0; number < 10; number++) {
            grows(kind, 300, 0, number, more[number]);
            grows(kind, 300, 100, number, 15 + more[number]);
        }
        // 1 (1.5) and 0.66 are cut each for itself
        grows(kind, 300, 10, 2, 1);
    }

    private static void oakGrows() {
        int[] wets = {0, 10, 19, 20, 30, 40, 100}, want = {0, 0, 0, 1, 1, 2, 5};
        for (int i = 0; i < wets.length; i++) grows(OAK, 200, wets[i], 9, want[i]);
        grows(OAK, 300, 100, 0, 7);
        // 3 (3.9) by 2
        grows(OAK, 300, 26, 0, 1);
    }

    private static void softGrows() {
        grows(SOFT, 200, 90, 9, 0);
        grows(SOFT, 200, 100, 9, 1);
        grows(SOFT, 200, 80, 9, 0);
        grows(SOFT, 300, 0, 9, 0);
        grows(SOFT, 300, 0, 0, 0);
        grows(SOFT, 300, 100, 0, 15);
        grows(SOFT, 200, 10, 1, 0);
        grows(SOFT, 200, 10, 2, 0);
    }

    private static void newGrows() {
        int[] wets = {0, 10, 20, 30, 100}, want = {1, 1, 2, 2, 6};
        for (int i = 0; i < wets.length; i++) grows(NEW, 200, wets[i], 9, want[i]);
        grows(NEW, 300, 100, 0, 8);
    }

    private static void takesAsPlank(int kind) {
        for (int soak : new int[] {0, 1, 99, 100}) {
            takes(kind, 0, soak, soak);
            takes(kind, 9, soak, soak);
        }
    }

    private static void takesAsOak(int kind) {
        int[] soaks = {0, 1, 2, 3, 99, 100}, want = {0, 0, 1, 1, 49, 50};
        for (int i = 0; i < soaks.length; i++) {
            takes(kind, 0, soaks[i], want[i]);
            takes(kind, 9, soaks[i], want[i]);
        }
    }

    private static void paintedTakes() {
        takes(PAINTED, 0, 0, 0);
        takes(PAINTED, 0, 100, 100);
        takes(PAINTED, 9, 100, 91);
        takes(PAINTED, 9, 10, 1);
        takes(PAINTED, 9, 9, 0);
        takes(PAINTED, 9, 8, 0);
        takes(PAINTED, 9, 0, 0);
        takes(PAINTED, 1, 1, 0);
    }

    private static void softTakes() {
        int[] soaks = {0, 1, 50, 51, 100};
        for (int soak : soaks) takes(SOFT, 9, soak, 2 * soak);
        // WET is held at 100, what it TAKES UP isn't
        DriedOut x = Boats.ruled("soak 100;leak 0;dries 0;");
        x.plank(SOFT, 10, 0);
        x.lay(1);
        S.due("WET behind a day", x.told(0, 2), 100);
        S.due("TAKES UP then", x.told(0, 4), 200);
    }

    private static void nothingBelowZero() {
        for (int kind = 0; kind < 6; kind++) {
            DriedOut x = Boats.ruled("soak -9999;leak 0;dries 0;");
            x.plank(kind, 10, 9);
            S.due("KIND " + kind + " GROWS 0 at least", Math.min(0, x.told(0, 3)), 0);
            S.due("KIND " + kind + " TAKES UP 0 at least", x.told(0, 4), 0);
            S.due("KIND " + kind + " BEARS 0 at least", Math.min(0, x.told(0, 5)), 0);
        }
        grows(SOFT, 10, 0, 1, 0);
        takes(PAINTED, 9, 0, 0);
        // 0 less 9 would be taken from what the other PLANK GROWS, if it weren't 0: 15 by 2: 7
        DriedOut x = new DriedOut();
        x.plank(SOFT, 10, 9);
        x.plank(PLANK, 100300, 70);
        S.due("LEFT beside a PLANK that GROWS 0", x.gap(0, 3) + x.gap(0, 4), 0);
        // 0 less 9 would dry it, if it weren't 0
        DriedOut y = Boats.ruled("soak 0;leak 0;dries 0;");
        y.plank(PAINTED, 50010, 9);
        y.lay(1);
        S.due("WET of one that TAKES UP 0", y.told(0, 2), 50);
    }

    private static void quotientsAreCut() {
        // 1.99 GROWS 1; 1 and 2 by 2: 1; a PRESS of 7 is wider by 1
        grows(PLANK, 199, 20, 0, 1);
        DriedOut x = new DriedOut();
        x.plank(PLANK, 10200, 0);
        x.plank(PLANK, 20200, 0);
        S.due("1 and 2 by 2", x.gap(0, 4), 1);
        DriedOut y = Boats.ruled(Boats.STILL);
        y.plank(SOFT, 10, 0);
        y.plank(SOFT, 10, 0);
        y.set(3, 0, 7);
        y.lay(1);
        S.due("a quarter of 7", y.gap(0, 0), 1);
        // 49 by 24, rounded up: 3; 100 by 3: 33
        DriedOut z = Boats.ruled(Boats.STILL);
        Boats.planks(z, 2);
        z.set(2, 0, 49);
        S.due("100 by 3", z.far(100), 33);
    }
}
