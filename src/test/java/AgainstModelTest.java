/** Long runs of calls on DriedOut and on Model side by side: both must answer alike. */
public final class AgainstModelTest {
    private static final int RUNS = 120, CALLS = 512, TEXTS = 20000;
    private static int wrong;

    private final Dice dice;
    private final TextMaker maker;
    private final DriedOut x = new DriedOut();
    private final Model model = new Model();
    private final StringBuilder log = new StringBuilder();
    private int calls;
    private boolean alike = true;

    private AgainstModelTest(long seed) {
        dice = new Dice(seed);
        maker = new TextMaker(dice);
    }

    public static void main(String[] args) {
        for (int seed = 1; seed <= RUNS && wrong < 3; seed++) new AgainstModelTest(seed).live(seed);
        for (int seed = 1; seed <= TEXTS && wrong < 3; seed++) readOne(seed);
        System.out.println(wrong == 0 ? "as the model answers" : "NOT as the model answers");
        if (wrong != 0) System.exit(1);
    }

    private static void readOne(int seed) {
        AgainstModelTest run = new AgainstModelTest(1000000L + seed);
        run.feedText(run.maker.make());
        run.due("text()", run.x.text(), run.model.text());
        if (!run.alike) report(seed, run);
    }

    private static void report(int seed, AgainstModelTest run) {
        wrong++;
        System.out.println("seed " + seed + ":\n" + run.log);
    }

    private void due(String call, long got, long want) {
        calls++;
        log.append(call).append(" -> ").append(got);
        if (got != want) {
            alike = false;
            log.append(", the model: ").append(want);
        }
        log.append('\n');
    }

    private void live(int seed) {
        int style = dice.below(4);
        for (int i = dice.below(11); i > 0; i--) plank();
        if (style > 0) learn();
        while (calls < CALLS && alike) {
            if (dice.onceIn(60)) lookAtAll();
            else if (style == 1 && dice.onceIn(5)) learn();
            else call();
        }
        if (!alike) report(seed, this);
    }

    private void plank() {
        int kind = dice.around(0, 5);
        int what = dice.onceIn(30) ? (int) dice.bits() : 1000 * dice.around(0, 100) + dice.around(10, 300);
        int more = dice.onceIn(30) ? (int) dice.bits() : 10 * smallGap() + dice.around(0, 9);
        due("plank(" + kind + ", " + what + ", " + more + ")", x.plank(kind, what, more), model.plank(kind, what, more));
    }

    private int smallGap() {
        return dice.onceIn(3) ? dice.around(0, 200) : dice.between(0, 20);
    }

    private void feedText(String text) {
        for (int at = 0; at < text.length();) {
            int n = Math.min(dice.between(1, 8), text.length() - at);
            long bytes = n == 8 ? 0 : dice.bits() << (8 * n);
            for (int i = 0; i < n; i++) bytes |= (long) (text.charAt(at + i) & 255) << (8 * i);
            due("feed(" + n + ", " + bytes + "L)", x.feed(n, bytes), model.feed(n, bytes));
            at += n;
        }
    }

    private void learn() {
        feedText(maker.make());
        due("text()", x.text(), model.text());
        force(model.texts.size() - 1);
    }

    private void force(int text) {
        due("force(" + text + ")", x.force(text), model.force(text));
    }

    private void set(int what, int of, int v) {
        due("set(" + what + ", " + of + ", " + v + ")", x.set(what, of, v), model.set(what, of, v));
    }

    private int aPlank() {
        return dice.around(0, Math.max(0, model.boat.planks.size() - 1));
    }

    private int aGap() {
        return dice.around(0, Math.max(0, model.boat.gaps.size() - 1));
    }

    private void lookAtAll() {
        for (int i = 0; i <= 10; i++) due("count(" + i + ")", x.count(i), model.count(i));
        for (int i = 0; i < model.boat.planks.size(); i++) {
            for (int what = 2; what < 7; what++) due("told(" + i + ", " + what + ")", x.told(i, what), model.told(i, what));
        }
        for (int g = 0; g < model.boat.gaps.size(); g++) {
            for (int what = 0; what < 5; what++) due("gap(" + g + ", " + what + ")", x.gap(g, what), model.gap(g, what));
        }
    }

    private void call() {
        int n = dice.onceIn(4) ? dice.around(1, 60) : dice.between(1, 12);
        switch (dice.below(30)) {
            case 0: plank(); break;
            case 1: case 2: changeSomething(); break;
            case 3: told(aPlank(), dice.around(0, 7)); break;
            case 4: gap(aGap(), dice.around(0, 4)); break;
            case 5: strayBytes(); break;
            case 6: force(dice.around(0, 5)); break;
            case 7: due("comes()", x.comes(), model.comes()); break;
            case 8: case 9: case 10: run(n, dice.around(0, 4)); break;
            case 11: due("lay(" + n + ")", x.lay(n), model.lay(n)); break;
            case 12: due("air(" + n + ")", x.air(n), model.air(n)); break;
            case 13: due("tight()", x.tight(), model.tight()); break;
            case 14: due("out()", x.out(), model.out()); break;
            case 15: sack(dice.around(0, 100)); break;
            case 16: first(dice.onceIn(3) ? dice.around(1, 100) : dice.between(1, 20)); break;
            case 17: most(aGap()); break;
            case 18: far(dice.around(0, 9999)); break;
            case 19: nails(dice.around(0, 1)); break;
            case 20: image(); break;
            case 21: due("count(" + n + ")", x.count(n), model.count(n)); break;
            case 22: case 23: sheet(dice.around(0, 3), dice.around(-1, 2), dice.around(0, 40)); break;
            case 24: case 25: cell(dice.around(0, 3), dice.around(0, 39)); break;
            case 26: copy(dice.around(0, 3), dice.around(0, 3)); break;
            case 27: planks(); break;
            case 28: taken(aPlank(), dice.around(0, 5)); break;
            default: learn(); break;
        }
    }

    private void changeSomething() {
        int[] bounds = {100, 99, 200, 100, 1, 9, 9999};
        int what = dice.around(0, 6), bound = what >= 0 && what < 7 ? bounds[what] : 9;
        int v = what == 2 ? smallGap() : what == 3 && dice.onceIn(2) ? dice.between(0, 25) : dice.around(0, bound);
        set(what, what < 2 ? aPlank() : aGap(), v);
    }

    private void told(int i, int what) {
        due("told(" + i + ", " + what + ")", x.told(i, what), model.told(i, what));
    }

    private void gap(int g, int what) {
        due("gap(" + g + ", " + what + ")", x.gap(g, what), model.gap(g, what));
    }

    private void strayBytes() {
        int n = dice.around(1, 8);
        long bytes = dice.bits();
        due("feed(" + n + ", " + bytes + "L)", x.feed(n, bytes), model.feed(n, bytes));
        if (!dice.onceIn(5)) due("text()", x.text(), model.text());
    }

    private void run(int n, int what) {
        int of = what == 2 ? aPlank() : aGap();
        due("run(" + n + ", " + of + ", " + what + ")", x.run(n, of, what), model.run(n, of, what));
    }

    private void sack(int v) {
        due("sack(" + v + ")", x.sack(v), model.sack(v));
    }

    private void first(int v) {
        due("first(" + v + ")", x.first(v), model.first(v));
    }

    private void most(int g) {
        if (!dice.onceIn(4)) return;
        due("most(" + g + ")", x.most(g), model.most(g));
    }

    private void far(int hold) {
        due("far(" + hold + ")", x.far(hold), model.far(hold));
    }

    private void nails(int part) {
        due("nails(" + part + ")", x.nails(part), model.nails(part));
    }

    private void image() {
        if (dice.onceIn(2)) due("image()", x.image(), model.image());
        else due("back()", x.back(), model.back());
    }

    private void sheet(int sheet, int sort, int n) {
        due("sheet(" + sheet + ", " + sort + ", " + n + ")", x.sheet(sheet, sort, n), model.sheet(sheet, sort, n));
    }

    private void cell(int sheet, int i) {
        int v = dice.onceIn(3) ? dice.below(6) : dice.onceIn(2) ? dice.between(10, 300) : (int) dice.bits();
        due("cell(" + sheet + ", " + i + ", " + v + ")", x.cell(sheet, i, v), model.cell(sheet, i, v));
    }

    private void copy(int sheet, int other) {
        int i = dice.onceIn(3) ? dice.around(0, 40) : dice.below(10), j = dice.onceIn(3) ? dice.around(0, 40) : dice.below(10);
        int n = dice.onceIn(3) ? dice.around(0, 40) : dice.between(-1, 6);
        due("copy(" + sheet + ", " + i + ", " + other + ", " + j + ", " + n + ")",
            x.copy(sheet, i, other, j, n), model.copy(sheet, i, other, j, n));
    }

    private void planks() {
        int sheet = dice.around(0, 3), sort = dice.around(0, 2), from = dice.around(0, 12), n = dice.around(0, 10);
        if (dice.onceIn(2)) fillWithPlanks(sheet, sort, from);
        due("planks(" + sheet + ", " + sort + ", " + from + ", " + n + ")",
            x.planks(sheet, sort, from, n), model.planks(sheet, sort, from, n));
    }

    private void fillWithPlanks(int sheet, int sort, int from) {
        sheet(sheet, sort, 24);
        for (int i = 0; i < 3; i++) {
            int at = (from & 15) + 3 * i;
            int[] three = {dice.around(0, 5), dice.between(0, sort == 2 ? 100 : 33) * 1000 + dice.around(10, 120), dice.below(200)};
            for (int k = 0; k < 3; k++) {
                due("cell(" + sheet + ", " + (at + k) + ", " + three[k] + ")",
                    x.cell(sheet, at + k, three[k]), model.cell(sheet, at + k, three[k]));
            }
        }
    }

    private void taken(int i, int k) {
        due("taken(" + i + ", " + k + ")", x.taken(i, k), model.taken(i, k));
    }
}
